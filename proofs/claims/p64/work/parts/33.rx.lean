/-! ===== the whole class and the whole model ===== -/
def RJ (g : MgV) (m : MdV) : Prop := Mg_latestReason g = Md_why m ∧ Mg_latestDetail g = Md_detail m ∧ Mg_latestCause g = Md_cause m ∧ (Mg_latestReason g = 10 ↔ Md_cause m ≠ 0)
def SN (N : Nat) (g : MgV) (b : BkV) (m : MdV) : Prop := ∃ s : Bool, Mg_hasSnapshot g = b2 s ∧ Md_isSaved m = b2 s ∧ (s = true → RB N b (segR (Md_all m) 9))
def IB (sc : ScV) (m : MdV) : Prop := ∃ n, n ≤ 60 ∧ Sc_length sc = nI n ∧ Md_typed m = nI n ∧ ∀ i, i < n → ∃ ch, 32 ≤ ch ∧ ch ≤ 126 ∧ Sc_input sc i = nI ch ∧ Md_input m i = nI ch
/-- what the text's array can be long -/
def capOK (n : Nat) : Prop := n = 16 ∨ n = 34 ∨ n = 70 ∨ n = 142
def OB (sb : SbV) (m : MdV) : Prop := ∃ n, n ≤ 110 ∧ n ≤ Sb_cap sb ∧ capOK (Sb_cap sb) ∧ Sb_cap sb ≤ 1000 ∧ Sb_coder sb = 0 ∧ sb_Fit (Sb_value sb) ∧ Sb_count sb = nI n ∧ Md_outputSize m = nI n ∧ ∀ i, i < n → ∃ ch, ch < 128 ∧ Sb_value sb i = nI ch ∧ Md_output m i = nI ch
def RX (N : Nat) (x : XV) (m : MdV) : Prop :=
  RB N x.2.1 (Md_all m) ∧ HB N x.2.2.2.2.1 x.2.2.2.2.2.2.2 (Md_changes m) (Md_all m) ∧ SN N x.1 x.2.2.2.1 m ∧ RJ x.1 m ∧ Mg_latestSyntaxError x.1 = Md_errorAt m ∧ IB x.2.2.2.2.2.1 m ∧ OB x.2.2.2.2.2.2.1 m
abbrev MrT : Type := (Nat → Int32) × (Nat → Int32) × Int32 × Int32 × Int32 × Int32 × Int32 × Int32 × Int32 × Int32
/-- what of the model the relation speaks of, beside the rows -/
def mRest (m : MdV) : MrT := (Md_output m, Md_input m, Md_changes m, Md_isSaved m, Md_why m, Md_detail m, Md_cause m, Md_outputSize m, Md_typed m, Md_errorAt m)
theorem HB.mono {N N' : Nat} {hs : HsV} {hb : Nat → BkV} {ch : Int32} {a a' : Nat → Int32} (h : HB N hs hb ch a) (hN : N ≤ N') (k : ∀ s, 1 ≤ s → s ≤ 8 → sameR (segR a' s) (segR a s)) : HB N' hs hb ch a' := by
  obtain ⟨c, nx, h1, h2, h3, h4, h5, h6⟩ := h
  exact ⟨c, nx, h1, h2, h3, h4, h5, fun s s1 s2 => ((h6 s s1 s2).mono hN).same (k s s1 (by omega))⟩
theorem RX.mem {N N' : Nat} {x : XV} {m m' : MdV} (h : RX N x m) (hN : N ≤ N') (k : ∀ s, s ≤ 9 → sameR (segR (Md_all m') s) (segR (Md_all m) s)) (e : mRest m' = mRest m) : RX N' x m' := by
  obtain ⟨h1, h2, ⟨s, s1, s2, s3⟩, ⟨j1, j2, j3, j4⟩, h5, ⟨n, n1, n2, n3, n4⟩, ⟨o, o1, o2, o3, o4, o5, o6, o7, o8, o9⟩⟩ := h
  unfold mRest at e
  simp only [Prod.mk.injEq] at e
  obtain ⟨e1, e2, e3, e4, e5, e6, e7, e8, e9, e10⟩ := e
  have k0 := k 0 (by omega)
  rw [segR_0, segR_0] at k0
  refine ⟨(h1.mono hN).same k0, ?_, ⟨s, s1, by rw [e4]; exact s2, fun q => ((s3 q).mono hN).same (k 9 (Nat.le_refl _))⟩, ⟨by rw [e5]; exact j1, by rw [e6]; exact j2, by rw [e7]; exact j3, by rw [e7]; exact j4⟩, by rw [e10]; exact h5, ⟨n, n1, n2, by rw [e9]; exact n3, fun i hi => by rw [e2]; exact n4 i hi⟩, ⟨o, o1, o2, o3, o4, o5, o6, o7, by rw [e8]; exact o8, fun i hi => by rw [e1]; exact o9 i hi⟩⟩
  rw [e3]
  exact h2.mono hN (fun s s1 s2 => k s (by omega))
theorem RX.mono {N N' : Nat} {x : XV} {m : MdV} (h : RX N x m) (hN : N ≤ N') : RX N' x m := h.mem hN (fun _ _ _ _ => rfl) rfl
theorem RX.th {N : Nat} {x : XV} {m : MdV} (h : RX N x m) (t : Int32) : RX N x (mTh m t) := h.mem (Nat.le_refl _) (fun _ _ _ _ => rfl) rfl
/-! a call that may throw: both sides agree -/
def Ag (codes : List String) (N : Nat) (fx : Option ((Int32 × XV) ⊕ (String × XV))) (fm : Option (Int32 × MdV)) : Prop :=
  ∃ R r m', fx = some R ∧ fm = some (r, m') ∧ match R with
    | .inl q => Md_thrown m' = 0 ∧ q.1 = r ∧ RX N q.2 m'
    | .inr q => (∃ k, codes[k]? = some q.1 ∧ Md_thrown m' = nI (k + 1)) ∧ RX N q.2 m'
theorem Ag.ret {codes : List String} {N : Nat} {fx : Option ((Int32 × XV) ⊕ (String × XV))} {fm : Option (Int32 × MdV)} {r : Int32} {x' : XV} {m' : MdV} (h1 : fx = some (.inl (r, x'))) (h2 : fm = some (r, m')) (h3 : Md_thrown m' = 0) (h4 : RX N x' m') : Ag codes N fx fm := ⟨_, _, _, h1, h2, h3, rfl, h4⟩
theorem Ag.thr {codes : List String} {N : Nat} {fx : Option ((Int32 × XV) ⊕ (String × XV))} {fm : Option (Int32 × MdV)} {r : Int32} {E : String} {x' : XV} {m' : MdV} (k : Nat) (h1 : fx = some (.inr (E, x'))) (h2 : fm = some (r, m')) (hk : codes[k]? = some E) (h3 : Md_thrown m' = nI (k + 1)) (h4 : RX N x' m') : Ag codes N fx fm := ⟨_, _, _, h1, h2, ⟨k, hk, h3⟩, h4⟩
/-- .. that doesn't throw -/
def AgP (N : Nat) (x : XV) (fx : Option Int32) (fm : Option (Int32 × MdV)) : Prop := ∃ r m', fx = some r ∧ fm = some (r, m') ∧ RX N x m'
/-! direct changes -/
def mdCall (m : MdV) (op : MdV → Option (Int32 × MdV)) (n1 n2 n3 : Int32) : Option (Int32 × MdV) := bd (f_X4_begins m) (fun r1 => bd (op r1.2) (fun r3 => bd (f_X4_ends r3.2 r3.1 n1 n2 n3) (fun r5 => some (r5.1, r5.2))))
def md1 (m : MdV) : MdV := mA m (cpR (Md_all m) 0 10 75)
theorem md1_seg (m : MdV) {s : Nat} (h : s ≠ 10) : sameR (segR (Md_all (md1 m)) s) (segR (Md_all m) s) := fun _ hj => cpR_ne _ _ h hj
theorem md1_ten (m : MdV) : sameR (segR (Md_all (md1 m)) 10) (Md_all m) := fun j hj => (cpR_seg (Md_all m) 0 10 hj).trans (congrFun (segR_0 _) j)
theorem md1_RB {N : Nat} {v : BkV} {m : MdV} (h : RB N v (Md_all m)) : RB N v (Md_all (md1 m)) := by
  refine h.same ?_
  have := md1_seg m (s := 0) (by omega)
  rw [segR_0, segR_0] at this
  exact this
theorem call_fail {m w : MdV} {op : MdV → Option (Int32 × MdV)} {n1 n2 n3 by_ t : Int32} (hop : op (md1 m) = some (by_, w)) (hw : Md_all w = Md_all (md1 m)) (ht : t ≠ 0) (h : (if by_ = 1 then n1 else if by_ = 2 then n2 else if by_ = 3 then n3 else 0) = t) : ∃ a', mdCall m op n1 n2 n3 = some (0, mA (mTh w t) a') ∧ ∀ s, s ≤ 9 → sameR (segR a' s) (segR (Md_all m) s) := by
  refine ⟨cpR (Md_all w) 10 0 75, ?_, fun s hs => ?_⟩
  · unfold mdCall
    rw [tm_begins, bd_s]
    show bd (op (md1 m)) _ = _
    rw [hop, bd_s, tm_endsT w by_ n1 n2 n3 t ht h, bd_s]
  · intro j hj
    rw [hw]
    by_cases e : s = 0
    · rw [e, cpR_seg _ _ _ hj, segR_0]
      exact md1_ten m j hj
    · rw [cpR_ne _ _ e hj]
      exact md1_seg m (by omega) j hj
theorem call_ok {m : MdV} {op : MdV → Option (Int32 × MdV)} {n1 n2 n3 res : Int32} {a' : Nat → Int32} (hop : op (md1 m) = some (0, mAR (md1 m) a' res)) (hk : ∀ j, 75 ≤ j → a' j = Md_all (md1 m) j) {c : Nat} (hc : Md_changes m = nI c) (h8 : c ≤ 8) :
    ∃ a2, mdCall m op n1 n2 n3 = some (res, mA (mCh (mAR (md1 m) a' res) 0 (nI (if c = 8 then 8 else c + 1))) a2) ∧ sameR a2 a' ∧ sameR (segR a2 (if c = 8 then 8 else c + 1)) (Md_all m) ∧ (∀ s, 1 ≤ s → s < (if c = 8 then 8 else c + 1) → sameR (segR a2 s) (segR (Md_all m) (if c = 8 then s + 1 else s))) ∧ sameR (segR a2 9) (segR (Md_all m) 9) := by
  obtain ⟨a2, c', q1, q2, q3, q4, q5, q6⟩ := tm_ends0 (mAR (md1 m) a' res) n1 n2 n3 hc h8
  subst q2
  have hs : ∀ s, 1 ≤ s → sameR (segR a' s) (segR (Md_all (md1 m)) s) := fun s hs j hj => hk _ (by omega)
  refine ⟨a2, ?_, q3, q4.tr ((hs 10 (by omega)).tr (md1_ten m)), fun s s1 s2 => (q5 s s1 s2).tr ((hs _ (by split <;> omega)).tr (md1_seg m ?_)), q6.tr ((hs 9 (by omega)).tr (md1_seg m (by omega)))⟩
  · unfold mdCall
    rw [tm_begins, bd_s]
    show bd (op (md1 m)) _ = _
    rw [hop, bd_s, q1, bd_s]
    rfl
  · revert s2
    split <;> omega
section CHG
variable {N : Nat} {x : XV} {m : MdV}
def UOE : String := "java/lang/UnsupportedOperationException"
def IOOBE : String := "java/lang/IndexOutOfBoundsException"
def IAE : String := "java/lang/IllegalArgumentException"
def ISE : String := "java/lang/IllegalStateException"
def NSE : String := "java/util/NoSuchElementException"
def mgRej (g : MgV) (q d c : Int32) : MgV := (Mg_hasSnapshot g, Mg_latestSyntaxError g, q, d, c)
theorem chg_rej (k one two : Int32) {q : Nat} {d : Int32} (hq : 1 ≤ q ∧ q ≤ 9) (h1 : f_X0_reasonAgainst x.2.1 k one two = some (nI q)) (h2 : f_X0_detailOf x.2.1 (nI q) k one two = some d) : f_X3_changeUnlessRejected x k one two = some (.inr (UOE, (mgRej x.1 (nI q) d 0, x.2))) := by
  unfold f_X3_changeUnlessRejected
  rw [h1, bd_s, if_neg (nI_ne0 (by omega) (by omega)), h2, bd_s]
  rfl
theorem chg_ok (k one two : Int32) {res : Int32} {v' : BkV} {c nx : Nat} (h1 : f_X0_reasonAgainst x.2.1 k one two = some 0) (h2 : f_X0_carryOut x.2.1 k one two = some (res, v')) (hc : Hs_count x.2.2.2.2.1 = nI c) (hn : Hs_next x.2.2.2.2.1 = nI nx) (h8 : c ≤ 8) (n8 : nx < 8) :
    f_X3_changeUnlessRejected x k one two = some (.inl (res, (x.1, v', x.2.2.1, x.2.2.2.1, (nI (if c = 8 then 8 else c + 1), nI (if nx + 1 < 8 then nx + 1 else 0)), x.2.2.2.2.2.1, x.2.2.2.2.2.2.1, va_up x.2.2.2.2.2.2.2 nx x.2.1))) := by
  unfold f_X3_changeUnlessRejected
  rw [h1, bd_s, if_pos rfl]
  show bd (f_X1_remember (x.2.2.2.2.1, x.2.2.2.2.2.2.2, x.2.1)) _ = _
  rw [s_remember hc hn h8 n8, bd_s]
  show bd (f_X0_carryOut x.2.1 k one two) _ = _
  rw [h2, bd_s]
/-- a change that is made, on both sides -/
theorem RX.made (h : RX N x m) {v' : BkV} {a' : Nat → Int32} {res : Int32} {op : MdV → Option (Int32 × MdV)} {n1 n2 n3 : Int32} {N' : Nat} (hN : N ≤ N') (hop : op (md1 m) = some (0, mAR (md1 m) a' res)) (hk : ∀ j, 75 ≤ j → a' j = Md_all (md1 m) j) (hr : RB N' v' a') :
    ∃ m' c nx, mdCall m op n1 n2 n3 = some (res, m') ∧ Md_thrown m' = 0 ∧ c ≤ 8 ∧ nx < 8 ∧ Hs_count x.2.2.2.2.1 = nI c ∧ Hs_next x.2.2.2.2.1 = nI nx ∧ RX N' (x.1, v', x.2.2.1, x.2.2.2.1, (nI (if c = 8 then 8 else c + 1), nI (if nx + 1 < 8 then nx + 1 else 0)), x.2.2.2.2.2.1, x.2.2.2.2.2.2.1, va_up x.2.2.2.2.2.2.2 nx x.2.1) m' := by
  obtain ⟨h1, h2, ⟨s, s1, s2, s3⟩, h4, h5, h6, h7⟩ := h
  obtain ⟨c, nx0, c8, n8, c1, c2, c3, -⟩ := id h2
  obtain ⟨a2, q1, q2, q3, q4, q5⟩ := call_ok (n1 := n1) (n2 := n2) (n3 := n3) hop hk c3 c8
  obtain ⟨nx, m8, g1, g2, g3⟩ := HB.new (v := m) h2 hN h1 c3 c8 q3 q4
  exact ⟨_, c, nx, q1, rfl, c8, m8, g1, g2, hr.same q2, g3, ⟨s, s1, s2, fun q => ((s3 q).mono hN).same q5⟩, h4, h5, h6, h7⟩
theorem RX.rejd (h : RX N x m) {a' : Nat → Int32} {t : Int32} (k : ∀ s, s ≤ 9 → sameR (segR a' s) (segR (Md_all m) s)) {q : Nat} {d : Int32} (hq : 1 ≤ q ∧ q ≤ 9) : RX N (mgRej x.1 (nI q) d 0, x.2) (mA (mTh (mRej (md1 m) (nI q) d) t) a') := by
  obtain ⟨h1, h2, ⟨s, s1, s2, s3⟩, h4, h5, h6, h7⟩ := h
  have k0 := k 0 (by omega)
  rw [segR_0, segR_0] at k0
  refine ⟨h1.same k0, h2.mono (Nat.le_refl _) (fun s s1 s2 => k s (by omega)), ⟨s, s1, s2, fun z => (s3 z).same (k 9 (by omega))⟩, ⟨rfl, rfl, rfl, ?_⟩, h5, h6, h7⟩
  constructor
  · intro z
    have := (nI_eq (a := q) (b := 10) (by omega) (by omega)).mp z
    omega
  · intro z
    exact absurd rfl z
/-- a direct change whose arguments are accepted -/
theorem dir_ag (h : RX N x m) {k one two byA n1 n2 n3 : Int32} {op : MdV → Option (Int32 × MdV)} {codes : List String} (st : StpK N x.2.1 (md1 m) k one two byA (op (md1 m))) (ac : f_X0_accepts x.2.1 k one two ≠ some 0) {z : Nat} (hz : codes[z]? = some UOE) (hz3 : z < 3) (h3 : n3 = nI (z + 1)) : Ag codes (N + 1) (f_X3_changeUnlessRejected x k one two) (mdCall m op n1 n2 n3) := by
  rcases st with ⟨a1, -⟩ | ⟨-, q, d, a2, a3, a4, a5⟩ | ⟨-, a2, res, v', a', a3, a4, a5, a6⟩
  · exact absurd a1 ac
  · obtain ⟨a', q1, q2⟩ := call_fail (n1 := n1) (n2 := n2) (n3 := n3) a5 rfl (t := n3) (by rw [h3]; exact nI_ne0 (by omega) (by omega)) (by rw [if_neg (by decide), if_neg (by decide), if_pos rfl])
    exact Ag.thr z (chg_rej k one two a3 a2 a4) q1 hz h3 ((h.rejd q2 a3).mono (Nat.le_succ _))
  · obtain ⟨m', c, nx, q1, q2, q3, q4, q5, q6, q7⟩ := h.made (n1 := n1) (n2 := n2) (n3 := n3) (Nat.le_succ _) a4 a6 a5
    exact Ag.ret (chg_ok k one two a2 a3 q5 q6 q3 q4) q1 q2 q7
/-- .. that are not -/
theorem dir_no (h : RX N x m) {n1 n2 n3 byA : Int32} {op : MdV → Option (Int32 × MdV)} {codes : List String} {E : String} {fx : Option ((Int32 × XV) ⊕ (String × XV))} (hx : fx = some (.inr (E, x))) (ho : op (md1 m) = some (byA, md1 m)) {z : Nat} (hz : codes[z]? = some E) (hz3 : z < 3) (hb : (if byA = 1 then n1 else if byA = 2 then n2 else if byA = 3 then n3 else 0) = nI (z + 1)) : Ag codes (N + 1) fx (mdCall m op n1 n2 n3) := by
  obtain ⟨a', q1, q2⟩ := call_fail (n1 := n1) (n2 := n2) (n3 := n3) ho rfl (t := nI (z + 1)) (nI_ne0 (by omega) (by omega)) hb
  exact Ag.thr z hx q1 hz rfl (h.mem (Nat.le_succ _) q2 rfl)
theorem x_reqPage (a : Int32) : f_X3_requirePage x a = some (if 0 ≤ a ∧ a < 60 then .inl (0, x) else .inr (IOOBE, x)) := by
  unfold f_X3_requirePage
  rw [s_hasPage, bd_s]
  by_cases h : 0 ≤ a ∧ a < 60
  · rw [decide_eq_true h, if_neg (by decide), if_pos h]
  · rw [decide_eq_false h, if_pos b2_f, if_neg h]
    rfl
theorem x_reqWeight (a : Int32) : f_X3_requireWeight x a = some (if 1 ≤ a ∧ a ≤ 9 then .inl (0, x) else .inr (IAE, x)) := by
  unfold f_X3_requireWeight
  rw [s_takesWeight, bd_s]
  by_cases h : 1 ≤ a ∧ a ≤ 9
  · rw [decide_eq_true h, if_neg (by decide), if_pos h]
  · rw [decide_eq_false h, if_pos b2_f, if_neg h]
    rfl
theorem x_reqCount (a : Int32) : f_X3_requireCount x a = some (if 1 ≤ a ∧ a ≤ 20 then .inl (0, x) else .inr (IAE, x)) := by
  unfold f_X3_requireCount
  rw [s_takesCount, bd_s]
  by_cases h : 1 ≤ a ∧ a ≤ 20
  · rw [decide_eq_true h, if_neg (by decide), if_pos h]
  · rw [decide_eq_false h, if_pos b2_f, if_neg h]
    rfl
theorem x_reqChapter (a : Int32) : f_X3_requireChapter x a = some (if 0 ≤ a ∧ a < Bk_chapters x.2.1 then .inl (0, x) else .inr (IOOBE, x)) := by
  unfold f_X3_requireChapter
  rw [s_hasChapter, bd_s]
  by_cases h : 0 ≤ a ∧ a < Bk_chapters x.2.1
  · rw [decide_eq_true h, if_neg (by decide), if_pos h]
  · rw [decide_eq_false h, if_pos b2_f, if_neg h]
    rfl
theorem x_reqMark {a s : Int32} (h : f_X0_slotWithId x.2.1 a = some s) : f_X3_requireMark x a = some (if s = -1 then .inr (IOOBE, x) else .inl (s, x)) := by
  unfold f_X3_requireMark
  rw [h, bd_s]
  split
  · rfl
  · rfl
theorem bx_inl {α β γ : Type} {a : α} {k1 : α → γ} {k2 : β → γ} : bx (.inl a) k1 k2 = k1 a := rfl
theorem bx_inr {α β γ : Type} {a : β} {k1 : α → γ} {k2 : β → γ} : bx (.inr a) k1 k2 = k2 a := rfl
theorem bx_id {f : Option ((Int32 × XV) ⊕ (String × XV))} : bd f (fun r5 => bx r5 (fun r5 => some (.inl (r5.1, r5.2))) (fun r5 => some (.inr r5))) = f := by
  cases f with
  | none => rfl
  | some r => cases r <;> rfl
theorem ag_addRibbon (h : RX N x m) (hN : N < 2 ^ 28) (p w : Int32) : Ag [IOOBE, IAE, UOE] (N + 1) (f_X3_addRibbon x p w) (f_X4_addRibbon m p w) := by
  have st := stp_R (md1_RB h.1) hN p w
  have e : f_X4_addRibbon m p w = mdCall m (fun u => f_X4_adds u p w 1) 1 2 3 := rfl
  rw [e]
  unfold f_X3_addRibbon
  rw [x_reqPage, bd_s]
  by_cases hp : 0 ≤ p ∧ p < 60
  · rw [if_pos hp, bx_inl, x_reqWeight, bd_s]
    by_cases hw : 1 ≤ w ∧ w ≤ 9
    · rw [if_pos hw, bx_inl, bx_id]
      refine dir_ag h st ?_ (z := 2) rfl (by omega) rfl
      rw [ac_add, decide_eq_true hp, decide_eq_true hw]
      decide
    · rw [if_neg hw, bx_inr]
      exact dir_no (byA := 2) h rfl (tm_adds_w (md1 m) 1 hp hw) (z := 1) rfl (by omega) rfl
  · rw [if_neg hp, bx_inr]
    exact dir_no (byA := 1) h rfl (tm_adds_p (md1 m) w 1 hp) (z := 0) rfl (by omega) rfl
theorem ag_addDogEar (h : RX N x m) (hN : N < 2 ^ 28) (p w : Int32) : Ag [IOOBE, IAE, UOE] (N + 1) (f_X3_addDogEar x p w) (f_X4_addDogEar m p w) := by
  have st := stp_E (md1_RB h.1) hN p w
  have e : f_X4_addDogEar m p w = mdCall m (fun u => f_X4_adds u p w 0) 1 2 3 := rfl
  rw [e]
  unfold f_X3_addDogEar
  rw [x_reqPage, bd_s]
  by_cases hp : 0 ≤ p ∧ p < 60
  · rw [if_pos hp, bx_inl, x_reqWeight, bd_s]
    by_cases hw : 1 ≤ w ∧ w ≤ 9
    · rw [if_pos hw, bx_inl, bx_id]
      refine dir_ag h st ?_ (z := 2) rfl (by omega) rfl
      rw [ac_ear, decide_eq_true hp, decide_eq_true hw]
      decide
    · rw [if_neg hw, bx_inr]
      exact dir_no (byA := 2) h rfl (tm_adds_w (md1 m) 0 hp hw) (z := 1) rfl (by omega) rfl
  · rw [if_neg hp, bx_inr]
    exact dir_no (byA := 1) h rfl (tm_adds_p (md1 m) w 0 hp) (z := 0) rfl (by omega) rfl
end CHG
