/-! ===== plain facts for the law's walk ===== -/
theorem nI_no {n : Nat} (h : n < 2 ^ 31) : ¬ nI n = (-30000 : Int32) := by
  intro e
  have h1 := nI_toInt h
  rw [e] at h1
  have h2 : (-30000 : Int32).toInt = -30000 := by decide
  omega
theorem no_neg : ¬ (0 : Int32) ≤ (-30000 : Int32) := by decide
theorem nI_0le {n : Nat} (h : n < 2 ^ 31) : (0 : Int32) ≤ nI n := nI_pos' h
/-- what the row of pages holds -/
def HF (l : List M5) (f : Nat → Int32) : Prop := ∀ p, p < 60 → ((∀ z ∈ l, mPg z ≠ p) → f p = -30000) ∧ ∀ z ∈ l, mPg z = p → f p = nI (mId z)
theorem HF.nil {f : Nat → Int32} (h : ∀ p, p < 60 → f p = -30000) : HF [] f := fun p hp => ⟨fun _ => h p hp, fun z hz => absurd hz List.not_mem_nil⟩
theorem HF.snoc {l : List M5} {f : Nat → Int32} (h : HF l f) {z : M5} (hz : ∀ y ∈ l, mPg y ≠ mPg z) : HF (l ++ [z]) (upd f (mPg z) (nI (mId z))) := fun p hp => by
  refine ⟨fun hno => ?_, fun y hy hp2 => ?_⟩
  · have h1 : p ≠ mPg z := fun e => hno z (List.mem_append_right _ List.mem_cons_self) e.symm
    rw [pk_un h1]
    exact (h p hp).1 fun y hy => hno y (List.mem_append_left _ hy)
  · rcases List.mem_append.mp hy with hy | hy
    · have h1 : p ≠ mPg z := fun e => hz y hy (hp2.trans e)
      rw [pk_un h1]
      exact (h p hp).2 y hy hp2
    · have e : y = z := List.mem_singleton.mp hy
      subst e
      subst hp2
      exact pk_us
theorem take_k {L : List M5} {k : Nat} {z : M5} (h : L[k]? = some z) : L.take (k + 1) = L.take k ++ [z] := by
  rw [List.take_succ, h]
  rfl
theorem mem_take {L : List M5} {k : Nat} {y : M5} (h : y ∈ L.take k) : ∃ i, i < k ∧ L[i]? = some y := by
  obtain ⟨i, hi⟩ := List.getElem?_of_mem h
  rw [List.getElem?_take] at hi
  by_cases e : i < k
  · rw [if_pos e] at hi
    exact ⟨i, e, hi⟩
  · rw [if_neg e] at hi
    cases hi
theorem take_pg {L : List M5} (hs : srt L) {k : Nat} {z : M5} (h : L[k]? = some z) {y : M5} (hy : y ∈ L.take k) : mPg y < mPg z := by
  obtain ⟨i, hi, e⟩ := mem_take hy
  exact srt_lt hs e h hi
/-- the seats as bits -/
def MK (l : List M5) (m : Nat) : Prop := m < 32 ∧ ∀ s, s < 5 → (m.testBit s = true ↔ ∃ z ∈ l, mSt z = s + 1)
theorem MK.nil : MK [] 0 := ⟨by decide, fun s _ => ⟨fun h => by rw [Nat.zero_testBit] at h; exact absurd h Bool.false_ne_true, fun ⟨z, hz, _⟩ => absurd hz List.not_mem_nil⟩⟩
theorem MK.ear {l : List M5} {m : Nat} (h : MK l m) {z : M5} (hz : mSt z = 0) : MK (l ++ [z]) m := ⟨h.1, fun s hs => by
  rw [h.2 s hs]
  constructor
  · rintro ⟨y, hy, e⟩
    exact ⟨y, List.mem_append_left _ hy, e⟩
  · rintro ⟨y, hy, e⟩
    rcases List.mem_append.mp hy with hy | hy
    · exact ⟨y, hy, e⟩
    · rw [List.mem_singleton.mp hy] at e
      omega⟩
theorem or_bit : ∀ m : Fin 32, ∀ s : Fin 5, (m.val ||| 2 ^ s.val) < 32 ∧ ∀ t : Fin 5, (m.val ||| 2 ^ s.val).testBit t.val = (m.val.testBit t.val || decide (t.val = s.val)) := by decide +kernel
theorem MK.rib {l : List M5} {m : Nat} (h : MK l m) {z : M5} {s : Nat} (hs : s < 5) (hz : mSt z = s + 1) : MK (l ++ [z]) (m ||| 2 ^ s) := by
  have hb := or_bit ⟨m, h.1⟩ ⟨s, hs⟩
  refine ⟨hb.1, fun t ht => ?_⟩
  rw [hb.2 ⟨t, ht⟩, Bool.or_eq_true, h.2 t ht]
  constructor
  · rintro (⟨y, hy, e⟩ | e)
    · exact ⟨y, List.mem_append_left _ hy, e⟩
    · have e2 : t = s := of_decide_eq_true e
      exact ⟨z, List.mem_append_right _ List.mem_cons_self, by rw [hz, e2]⟩
  · rintro ⟨y, hy, e⟩
    rcases List.mem_append.mp hy with hy | hy
    · exact Or.inl ⟨y, hy, e⟩
    · rw [List.mem_singleton.mp hy, hz] at e
      exact Or.inr (decide_eq_true (by show t = s; omega))
theorem bit_get : ∀ m : Fin 32, ∀ s : Fin 5, ((nI m.val >>> (nI s.val &&& 31)) &&& 1) = b2 (m.val.testBit s.val) := by decide +kernel
theorem bit_set : ∀ m : Fin 32, ∀ s : Fin 5, (nI m.val ||| ((1 : Int32) <<< (nI s.val &&& 31))) = nI (m.val ||| 2 ^ s.val) := by decide +kernel
theorem bit_or0 : ∀ m : Fin 32, (nI m.val ||| (0 : Int32)) = nI m.val := by decide +kernel
theorem MK.get {l : List M5} {m : Nat} (h : MK l m) {s : Nat} (hs : s < 5) : ((nI m >>> (nI s &&& 31)) &&& 1) = b2 (m.testBit s) := bit_get ⟨m, h.1⟩ ⟨s, hs⟩
theorem MK.set {l : List M5} {m : Nat} (h : MK l m) {s : Nat} (hs : s < 5) : (nI m ||| ((1 : Int32) <<< (nI s &&& 31))) = nI (m ||| 2 ^ s) := bit_set ⟨m, h.1⟩ ⟨s, hs⟩
theorem MK.or0 {l : List M5} {m : Nat} (h : MK l m) : (nI m ||| (0 : Int32)) = nI m := bit_or0 ⟨m, h.1⟩
theorem sum_snoc (l : List M5) (z : M5) (w : M5 → Nat) : ((l ++ [z]).map w).sum = (l.map w).sum + w z := by
  rw [List.map_append, List.sum_append, List.map_singleton, List.sum_singleton]
theorem nRib_snoc (l : List M5) (z : M5) : nRib (l ++ [z]) = nRib l + (if mSt z ≠ 0 then 1 else 0) := sum_snoc l z _
theorem wRib_snoc (l : List M5) (z : M5) : wRib (l ++ [z]) = wRib l + (if mSt z ≠ 0 then mWt z else 0) := sum_snoc l z _
theorem wEar_snoc (l : List M5) (z : M5) : wEar (l ++ [z]) = wEar l + (if mSt z ≠ 0 then 0 else mWt z) := sum_snoc l z _
theorem wAll (l : List M5) : wRib l + wEar l = (l.map mWt).sum := by
  unfold wRib wEar
  rw [← sum_add]
  refine sum_congr fun z _ => ?_
  by_cases e : mSt z ≠ 0
  · rw [if_pos e, if_pos e, Nat.add_zero]
  · rw [if_neg e, if_neg e, Nat.zero_add]
theorem wAll_le {L : List M5} (b : bL L) : (L.map mWt).sum ≤ 108 := by
  have h := sum_le L mWt 9 fun z hz => (b.2 z hz).2.2.1
  have := b.1
  omega
/-! chapters -/
def bg (S : List Nat) (c : Nat) : Nat := if c < S.length then S.getD c 0 else 60
theorem bg_0 {S : List Nat} (h : okS S) : bg S 0 = 0 := by
  unfold bg
  rw [if_pos (by have := h.1.2.1; omega), h.2.1]
theorem bg_in {S : List Nat} {c : Nat} (h : c < S.length) : bg S c = S.getD c 0 := if_pos h
theorem bg_n {S : List Nat} : bg S S.length = 60 := if_neg (Nat.lt_irrefl _)
theorem endCh_bg (S : List Nat) (c : Nat) : endCh S c = bg S (c + 1) := rfl
/-- the marks from page a on, ahead of page p -/
def pre (L : List M5) (a p : Nat) : List M5 := L.filter fun z => decide (a ≤ mPg z) && decide (mPg z < p)
theorem pre_0 (L : List M5) (a : Nat) : pre L a a = [] := List.filter_eq_nil_iff.mpr fun z _ h => by
  have h1 := Bool.and_eq_true_iff.mp h
  have := of_decide_eq_true h1.1
  have := of_decide_eq_true h1.2
  omega
theorem pre_no {L : List M5} {a p : Nat} (h : ∀ z ∈ L, mPg z ≠ p) : pre L a (p + 1) = pre L a p := List.filter_congr fun z hz => by
  have := h z hz
  have e : (mPg z < p + 1) = (mPg z < p) := propext ⟨fun q => by omega, fun q => by omega⟩
  rw [decide_eq_decide.mpr (show mPg z < p + 1 ↔ mPg z < p from by omega)]
theorem pre_yes : ∀ {L : List M5}, srt L → ∀ {a p : Nat} {z : M5}, z ∈ L → mPg z = p → a ≤ p → pre L a (p + 1) = pre L a p ++ [z]
  | [], _, a, p, z, hz, _, _ => absurd hz List.not_mem_nil
  | y :: t, hs, a, p, z, hz, hp, ha => by
    have hc := List.pairwise_cons.mp hs
    unfold pre
    rcases List.mem_cons.mp hz with e | hz
    · subst e
      have hgt : ∀ w ∈ t, ¬ ((decide (a ≤ mPg w) && decide (mPg w < p + 1)) = true) := fun w hw h => by
        have h1 := of_decide_eq_true (Bool.and_eq_true_iff.mp h).2
        have := hc.1 w hw
        omega
      have hgt2 : ∀ w ∈ t, ¬ ((decide (a ≤ mPg w) && decide (mPg w < p)) = true) := fun w hw h => by
        have h1 := of_decide_eq_true (Bool.and_eq_true_iff.mp h).2
        have := hc.1 w hw
        omega
      rw [List.filter_cons, List.filter_cons, List.filter_eq_nil_iff.mpr hgt, List.filter_eq_nil_iff.mpr hgt2, if_pos (by rw [decide_eq_true (show a ≤ mPg z by omega), decide_eq_true (show mPg z < p + 1 by omega)]; rfl), if_neg (by rw [decide_eq_false (show ¬ mPg z < p by omega), Bool.and_false]; exact Bool.false_ne_true)]
      rfl
    · have hlt := hc.1 z hz
      have ih := pre_yes hc.2 hz hp ha
      unfold pre at ih
      rw [List.filter_cons, List.filter_cons, ih]
      have e : (decide (a ≤ mPg y) && decide (mPg y < p + 1)) = (decide (a ≤ mPg y) && decide (mPg y < p)) := by
        rw [decide_eq_decide.mpr (show mPg y < p + 1 ↔ mPg y < p from by omega)]
      rw [e]
      split
      · rfl
      · rfl
theorem pre_all {L : List M5} {S : List Nat} {nid : Nat} (h5 : okL nid L) {c : Nat} : pre L (S.getD c 0) (endCh S c) = L.filter fun z => inCh S c (mPg z) := List.filter_congr fun z hz => by
  have hp := (h5.bL.2 z hz).2.1
  have h := inCh_range (S := S) (k := c) hp
  by_cases e : inCh S c (mPg z) = true
  · rw [e, decide_eq_true (h.mp e).1, decide_eq_true (h.mp e).2]
    rfl
  · have e2 : inCh S c (mPg z) = false := by
      cases h9 : inCh S c (mPg z) with
      | false => rfl
      | true => exact absurd h9 e
    rw [e2]
    by_cases e3 : S.getD c 0 ≤ mPg z
    · rw [decide_eq_false (show ¬ mPg z < endCh S c from fun q => e (h.mpr ⟨e3, q⟩)), Bool.and_false]
    · rw [decide_eq_false e3, Bool.false_and]
theorem sum_filter (L : List M5) (q : M5 → Bool) (w : M5 → Nat) : ((L.filter q).map w).sum = (L.map fun z => if q z = true then w z else 0).sum := by
  induction L with
  | nil => rfl
  | cons y t ih =>
    rw [List.filter_cons, List.map_cons, List.sum_cons, ← ih]
    by_cases e : q y = true
    · rw [if_pos e, if_pos e, List.map_cons, List.sum_cons]
    · rw [if_neg e, if_neg e, Nat.zero_add]
theorem len_filter (L : List M5) (q : M5 → Bool) : (L.filter q).length = (L.map fun z => if q z = true then 1 else 0).sum := by
  rw [← sum_filter, sum_one]
theorem fold_filter (inM : M5 → Bool) : ∀ (L : List M5) (T : List Nat), (L.filter inM).foldl mkT T = L.foldl (markT inM) T
  | [], _ => rfl
  | y :: t, T => by
    rw [List.filter_cons, List.foldl_cons]
    unfold markT
    by_cases e : inM y = true
    · rw [if_pos e, if_pos e, List.foldl_cons]
      exact fold_filter inM t _
    · rw [if_neg e, if_neg e]
      exact fold_filter inM t _
/-- ribbons' weights: those of a chapter, and those in favour -/
theorem fav_split {L : List M5} {S : List Nat} (c : Nat) : wRib L = wFav L S c + wRib (L.filter fun z => inCh S c (mPg z)) := by
  unfold wRib wFav
  rw [sum_filter, ← sum_add]
  refine sum_congr fun z _ => ?_
  unfold isFav
  by_cases e : mSt z ≠ 0
  · cases h : inCh S c (mPg z) with
    | false => rw [if_pos e, decide_eq_true e, if_pos (show (true && !false) = true from rfl), if_neg Bool.false_ne_true, Nat.add_zero]
    | true => rw [if_pos e, decide_eq_true e, if_neg (by decide), if_pos rfl, Nat.zero_add]
  · rw [if_neg e, decide_eq_false e, Bool.false_and, if_neg Bool.false_ne_true]
    split <;> rfl
theorem fav_agn (L : List M5) (S : List Nat) (c : Nat) : wFav L S c + wAgn L S c = wRib L + wEar L := by
  rw [wAll]
  unfold wFav wAgn
  rw [← sum_add]
  refine sum_congr fun z _ => ?_
  split
  · rw [Nat.add_zero]
  · rw [Nat.zero_add]
theorem hvy_step (w : Nat → Nat) (c : Nat) : hvy w (c + 1) = if c = 0 then 0 else if w (hvy w c) < w c then c else hvy w c := rfl
theorem mkT_len (T : List Nat) (z : M5) : (mkT T z).length ≤ T.length + 7 := mkT_le T z
theorem mkT_asc {T : List Nat} (h : ∀ c ∈ T, c < 128) {z : M5} (hp : mPg z < 100) (hw : mWt z < 100) : ∀ c ∈ mkT T z, c < 128 := by
  have hd : ∀ v, v < 100 → ∀ c ∈ digs v, c < 128 := fun v hv c hc => by
    obtain ⟨i, hi⟩ := List.getElem?_of_mem hc
    have hlt := lt_get hi
    rw [digs_len] at hlt
    obtain ⟨a1, a2⟩ := digs_at hv hlt
    rw [a1] at hi
    cases hi
    exact a2
  intro c hc
  unfold mkT at hc
  rcases List.mem_append.mp hc with hc | hc
  · rcases List.mem_append.mp hc with hc | hc
    · rcases List.mem_append.mp hc with hc | hc
      · rcases List.mem_append.mp hc with hc | hc
        · rcases List.mem_append.mp hc with hc | hc
          · exact h c hc
          · rw [List.mem_singleton.mp hc]
            decide
        · rw [List.mem_singleton.mp hc]
          split <;> decide
      · exact hd _ hp c hc
    · rw [List.mem_singleton.mp hc]
      decide
  · exact hd _ hw c hc
/-! texts of the law's own making -/
def ST (f : Nat → Int32) (T : List Nat) : Prop := sb_Fit f ∧ ∀ (i c : Nat), T[i]? = some c → f i = nI c ∧ c < 128
/-- what a text under construction holds -/
def GT (cap : Nat) (f : Nat → Int32) (T : List Nat) : Prop := cap ≤ 410 ∧ T.length ≤ cap ∧ ST f T
theorem GT.app {cap2 : Nat} {f f2 : Nat → Int32} {T U : List Nat} (h : ST f T) (h1 : cap2 ≤ 410) (h2 : T.length + U.length ≤ cap2) (h3 : ∀ i, i < T.length → f2 i = f i) (h4 : ∀ (i c : Nat), U[i]? = some c → f2 (T.length + i) = nI c ∧ c < 128) (h5 : sb_Fit f2) : GT cap2 f2 (T ++ U) := by
  refine ⟨h1, by rw [List.length_append]; exact h2, h5, fun i c hi => ?_⟩
  by_cases e : i < T.length
  · rw [List.getElem?_append_left e] at hi
    obtain ⟨a1, a2⟩ := h.2 i c hi
    exact ⟨(h3 i e).trans a1, a2⟩
  · rw [List.getElem?_append_right (by omega)] at hi
    have := h4 _ c hi
    rw [show T.length + (i - T.length) = i by omega] at this
    exact this
/-- the law's own texts, as numbers -/
def ksT (i : Nat) : List Nat := [[45], [32, 114], [32, 101], [42], [], [44]].getD i []
theorem lt_get' {α : Type} {l : List α} {i : Nat} {a : α} (h : l[i]? = some a) : i < l.length := (List.getElem?_eq_some_iff.mp h).1
theorem ks_at {i j c : Nat} (hi : i < 6) (h : (ksT i)[j]? = some c) : (ksByt.getD i []).getD j 0 = nI c ∧ c < 128 ∧ j < ksLen.getD i 0 := by
  have key : ∀ a : Fin 6, ∀ b : Fin 2, ∀ c, (ksT a.val)[b.val]? = some c → (ksByt.getD a.val []).getD b.val 0 = nI c ∧ c < 128 ∧ b.val < ksLen.getD a.val 0 := by
    intro a b c h
    have key2 : ∀ a : Fin 6, ∀ b : Fin 2, ∀ c : Fin 128, (ksT a.val)[b.val]? = some c.val → (ksByt.getD a.val []).getD b.val 0 = nI c.val ∧ b.val < ksLen.getD a.val 0 := by decide +kernel
    have key3 : ∀ a : Fin 6, ∀ x ∈ ksT a.val, x < 128 := by decide +kernel
    have hc := key3 a c (List.mem_of_getElem? h)
    have := key2 a b ⟨c, hc⟩ h
    exact ⟨this.1, hc, this.2⟩
  have hl : (ksT i).length ≤ 2 := by
    have key : ∀ a : Fin 6, (ksT a.val).length ≤ 2 := by decide +kernel
    exact key ⟨i, hi⟩
  have hj := lt_get' h
  exact key ⟨i, hi⟩ ⟨j, by omega⟩ c h
theorem ks_len {i : Nat} (hi : i < 6) : ksLen.getD i 0 = (ksT i).length := by
  have key : ∀ a : Fin 6, ksLen.getD a.val 0 = (ksT a.val).length := by decide +kernel
  exact key ⟨i, hi⟩
theorem digs_asc {v : Nat} (hv : v < 100) {f2 : Nat → Int32} {n : Nat} (h : ∀ i, i < dgs v → f2 (n + i) = nI (dgt v i)) : ∀ (i c : Nat), (digs v)[i]? = some c → f2 (n + i) = nI c ∧ c < 128 := fun i c hi => by
  have hlt := lt_get hi
  rw [digs_len] at hlt
  obtain ⟨a1, a2⟩ := digs_at hv hlt
  rw [a1] at hi
  cases hi
  exact ⟨h i hlt, a2⟩
/-! next, previous, nearest -/
def Nx (L : List M5) (p : Nat) (v : Int32) : Prop := (∃ z, nrs L 0 p z ∧ v = nI (mId z)) ∨ ((∀ y ∈ L, ¬ okSd 0 p (mPg y)) ∧ v = -30000)
theorem ok0 {p q : Nat} : okSd 0 p q ↔ p ≤ q := ⟨fun h => h.1 rfl, fun h => ⟨fun _ => h, fun e => absurd e (by decide)⟩⟩
theorem ok1 {p q : Nat} : okSd 1 p q ↔ q ≤ p := ⟨fun h => h.2 rfl, fun h => ⟨fun e => absurd e (by decide), fun _ => h⟩⟩
theorem ok2 {p q : Nat} : okSd 2 p q := ⟨fun e => absurd e (by decide), fun e => absurd e (by decide)⟩
theorem nrs0 {L : List M5} {p : Nat} {z : M5} : nrs L 0 p z ↔ z ∈ L ∧ p ≤ mPg z ∧ ∀ y ∈ L, p ≤ mPg y → mPg z ≤ mPg y := by
  constructor
  · rintro ⟨h1, h2, h3⟩
    have hz := ok0.mp h2
    refine ⟨h1, hz, fun y hy hp => ?_⟩
    have := h3 y hy (ok0.mpr hp)
    unfold dst at this
    rw [if_neg (by omega), if_neg (by omega)] at this
    omega
  · rintro ⟨h1, h2, h3⟩
    refine ⟨h1, ok0.mpr h2, fun y hy hp => ?_⟩
    have := h3 y hy (ok0.mp hp)
    have := ok0.mp hp
    unfold dst
    rw [if_neg (by omega), if_neg (by omega)]
    omega
theorem nrs1 {L : List M5} {p : Nat} {z : M5} : nrs L 1 p z ↔ z ∈ L ∧ mPg z ≤ p ∧ ∀ y ∈ L, mPg y ≤ p → mPg y ≤ mPg z := by
  have hd : ∀ q, q ≤ p → dst p q = p - q := fun q hq => by
    unfold dst
    by_cases e : q < p
    · rw [if_pos e]
    · rw [if_neg e]
      omega
  constructor
  · rintro ⟨h1, h2, h3⟩
    have hz := ok1.mp h2
    refine ⟨h1, hz, fun y hy hp => ?_⟩
    have := h3 y hy (ok1.mpr hp)
    rw [hd _ hz, hd _ hp] at this
    omega
  · rintro ⟨h1, h2, h3⟩
    refine ⟨h1, ok1.mpr h2, fun y hy hp => ?_⟩
    have hp := ok1.mp hp
    have := h3 y hy hp
    rw [hd _ h2, hd _ hp]
    omega
theorem Nx.at {L : List M5} {p : Nat} {z : M5} (hz : z ∈ L) (hp : mPg z = p) : nrs L 0 p z := nrs0.mpr ⟨hz, by omega, fun y _ h => by omega⟩
theorem Nx.yes {L : List M5} {p : Nat} {z : M5} (hz : z ∈ L) (hp : mPg z = p) : Nx L p (nI (mId z)) := Or.inl ⟨z, Nx.at hz hp, rfl⟩
theorem Nx.no {L : List M5} {p : Nat} {v : Int32} (h : Nx L (p + 1) v) (hno : ∀ z ∈ L, mPg z ≠ p) : Nx L p v := by
  rcases h with ⟨z, hz, e⟩ | ⟨h, e⟩
  · obtain ⟨h1, h2, h3⟩ := nrs0.mp hz
    exact Or.inl ⟨z, nrs0.mpr ⟨h1, by omega, fun y hy hp => h3 y hy (by have := hno y hy; omega)⟩, e⟩
  · refine Or.inr ⟨fun y hy hp => h y hy (ok0.mpr ?_), e⟩
    have := ok0.mp hp
    have := hno y hy
    omega
/-- the way to the next mark, as far as the pages from p on say -/
def Fa (L : List M5) (r p : Nat) (v : Int32) : Prop := (∃ z, nrs L 0 (max p (r + 1)) z ∧ v = nI (mPg z - r)) ∨ ((∀ y ∈ L, ¬ okSd 0 (max p (r + 1)) (mPg y)) ∧ v = -30000)
theorem Fa.low {L : List M5} {r p : Nat} {v : Int32} (h : Fa L r (p + 1) v) (hp : p ≤ r) : Fa L r p v := by
  unfold Fa at *
  rw [Nat.max_eq_right (by omega)] at *
  exact h
theorem Fa.yes {L : List M5} {r p : Nat} {z : M5} (hz : z ∈ L) (hp : mPg z = p) (hr : r < p) : Fa L r p (nI (p - r)) := by
  unfold Fa
  rw [Nat.max_eq_left (by omega)]
  exact Or.inl ⟨z, Nx.at hz hp, by rw [hp]⟩
theorem Fa.no {L : List M5} {r p : Nat} {v : Int32} (h : Fa L r (p + 1) v) (hno : ∀ z ∈ L, mPg z ≠ p) (hr : r < p) : Fa L r p v := by
  unfold Fa at *
  rw [Nat.max_eq_left (by omega)] at *
  rcases h with ⟨z, hz, e⟩ | ⟨h, e⟩
  · obtain ⟨h1, h2, h3⟩ := nrs0.mp hz
    exact Or.inl ⟨z, nrs0.mpr ⟨h1, by omega, fun y hy hp => h3 y hy (by have := hno y hy; omega)⟩, e⟩
  · refine Or.inr ⟨fun y hy hp => h y hy (ok0.mpr ?_), e⟩
    have := ok0.mp hp
    have := hno y hy
    omega
/-- the last mark ahead of page p -/
def Pv (L : List M5) (p : Nat) (v : Int32) : Prop := (∃ z, z ∈ L ∧ mPg z < p ∧ (∀ y ∈ L, mPg y < p → mPg y ≤ mPg z) ∧ v = nI (mId z)) ∨ ((∀ y ∈ L, p ≤ mPg y) ∧ v = -30000)
theorem Pv.nil (L : List M5) : Pv L 0 (-30000) := Or.inr ⟨fun _ _ => Nat.zero_le _, rfl⟩
theorem Pv.yes {L : List M5} {p : Nat} {z : M5} (hz : z ∈ L) (hp : mPg z = p) : Pv L (p + 1) (nI (mId z)) := Or.inl ⟨z, hz, by omega, fun y _ h => by omega, rfl⟩
theorem Pv.no {L : List M5} {p : Nat} {v : Int32} (h : Pv L p v) (hno : ∀ z ∈ L, mPg z ≠ p) : Pv L (p + 1) v := by
  rcases h with ⟨z, h1, h2, h3, e⟩ | ⟨h, e⟩
  · exact Or.inl ⟨z, h1, by omega, fun y hy hp => h3 y hy (by have := hno y hy; omega), e⟩
  · exact Or.inr ⟨fun y hy => by have := h y hy; have := hno y hy; omega, e⟩
theorem near_of {L : List M5} {p : Nat} {z : M5} (hz : z ∈ L) (h : ∀ y ∈ L, dst p (mPg z) < dst p (mPg y) ∨ (dst p (mPg z) = dst p (mPg y) ∧ mPg z ≤ mPg y)) : nrs L 2 p z := ⟨hz, ok2, fun y hy _ => h y hy⟩
/-! ears at risk -/
def rk1 (r cnt : Nat) (m : M5) : Nat := if 2 ≤ mWr m ∧ r < mPg m ∧ mPg m ≤ r + cnt then 1 else 0
def rk0 (r cnt : Nat) (m : M5) : Nat := if 2 ≤ mWr m ∧ mPg m < r ∧ r ≤ mPg m + cnt then 1 else 0
theorem rsk_1 {L : List M5} (h : ∀ z ∈ L, mSt z ≠ 0 → mWr z = 0) (r cnt : Nat) : rsk L r cnt true = (L.map (rk1 r cnt)).sum := by
  unfold rsk
  refine sum_congr fun z hz => ?_
  unfold rk1 onWay
  rw [if_pos rfl]
  by_cases e : 2 ≤ mWr z ∧ r < mPg z ∧ mPg z ≤ r + cnt
  · have h0 : mSt z = 0 := by
      apply Classical.byContradiction
      intro q
      have := h z hz q
      omega
    rw [if_pos e, if_pos ⟨by rw [decide_eq_true h0, decide_eq_true e.2]; rfl, e.1⟩]
  · rw [if_neg e, if_neg (fun q => e ⟨q.2, of_decide_eq_true (Bool.and_eq_true_iff.mp q.1).2⟩)]
theorem rsk_0 {L : List M5} (h : ∀ z ∈ L, mSt z ≠ 0 → mWr z = 0) (r cnt : Nat) : rsk L r cnt false = (L.map (rk0 r cnt)).sum := by
  unfold rsk
  refine sum_congr fun z hz => ?_
  unfold rk0 onWay
  rw [if_neg Bool.false_ne_true]
  by_cases e : 2 ≤ mWr z ∧ mPg z < r ∧ r ≤ mPg z + cnt
  · have h0 : mSt z = 0 := by
      apply Classical.byContradiction
      intro q
      have := h z hz q
      omega
    rw [if_pos e, if_pos ⟨by rw [decide_eq_true h0, decide_eq_true e.2]; rfl, e.1⟩]
  · rw [if_neg e, if_neg (fun q => e ⟨q.2, of_decide_eq_true (Bool.and_eq_true_iff.mp q.1).2⟩)]
/-! marks by weights -/
theorem ahd_next {L : List M5} {nid : Nat} (h5 : okL nid L) {y z : M5} (hy : y ∈ L) (hz : z ∈ L) (h : rnk L y < rnk L z) : ahd y z = true := by
  cases e : ahd y z with
  | true => rfl
  | false =>
    have hne : y ≠ z := fun q => by
      rw [q] at h
      exact Nat.lt_irrefl _ h
    have hzy : ahd z y = true := by
      refine ahd_iff.mpr ?_
      have hn : ¬ (mWt z < mWt y ∨ (mWt y = mWt z ∧ ((mSt y ≠ 0 ∧ mSt z = 0) ∨ ((mSt y = 0 ↔ mSt z = 0) ∧ mPg y < mPg z)))) := fun q => by
        rw [ahd_iff.mpr q] at e
        exact absurd e (by decide)
      have hpg : mPg y ≠ mPg z := fun q => hne (pg_one h5 hy hz q)
      rcases Nat.lt_trichotomy (mWt y) (mWt z) with q | q | q
      · exact Or.inl q
      · refine Or.inr ⟨q.symm, ?_⟩
        by_cases e1 : mSt y = 0
        · by_cases e2 : mSt z = 0
          · refine Or.inr ⟨⟨fun _ => e1, fun _ => e2⟩, ?_⟩
            have : ¬ mPg y < mPg z := fun q2 => hn (Or.inr ⟨q, Or.inr ⟨⟨fun _ => e2, fun _ => e1⟩, q2⟩⟩)
            omega
          · exact Or.inl ⟨e2, e1⟩
        · by_cases e2 : mSt z = 0
          · exact absurd (Or.inr ⟨q, Or.inl ⟨e1, e2⟩⟩) hn
          · refine Or.inr ⟨⟨fun q2 => absurd q2 e2, fun q2 => absurd q2 e1⟩, ?_⟩
            have : ¬ mPg y < mPg z := fun q2 => hn (Or.inr ⟨q, Or.inr ⟨⟨fun q3 => absurd q3 e1, fun q3 => absurd q3 e2⟩, q2⟩⟩)
            omega
      · exact absurd (Or.inl q) hn
    have := rnk_lt hz hzy
    omega
