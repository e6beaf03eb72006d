/-! ===== changes keep the relation; ranks; rows ===== -/
def IV (N : Nat) (x : XV) : Prop := ∃ m, RX N x m
theorem IV.mono {N N' : Nat} {x : XV} (h : IV N x) (hN : N ≤ N') : IV N' x := by
  obtain ⟨m, h⟩ := h
  exact ⟨m, h.mono hN⟩
theorem IV.bk {N : Nat} {x : XV} (h : IV N x) (hN : N < 2 ^ 28) : ∃ (L : List M5) (S : List Nat) (nid r : Nat), BK x L S nid r := by
  obtain ⟨m, h⟩ := h
  exact h.bk hN
theorem Ag.iv {codes : List String} {N : Nat} {fx : Option ((Int32 × XV) ⊕ (String × XV))} {fm : Option (Int32 × MdV)} (h : Ag codes N fx fm) : ∃ r, fx = some r ∧ codesOk codes r ∧ IV N (sndR r) := by
  obtain ⟨R, q, m', h1, -, h3⟩ := h
  refine ⟨R, h1, fun z hz => ?_, ?_⟩
  · subst hz
    obtain ⟨⟨k, hk, -⟩, -⟩ := h3
    exact ⟨k, hk⟩
  · cases R with
    | inl z => exact ⟨m', h3.2.2⟩
    | inr z => exact ⟨m', h3.2⟩
/-- where it says 'rejected', there is a reason -/
def UR (f : Option ((Int32 × XV) ⊕ (String × XV))) : Prop := ∀ x1, f = some (.inr (UOE, x1)) → Mg_latestReason x1.1 ≠ 0
theorem UR.l {q : Int32 × XV} : UR (some (.inl q)) := fun x1 h => by cases h
theorem UR.n : UR none := fun x1 h => by cases h
theorem UR.e {E : String} {y : XV} (h : E ≠ UOE) : UR (some (.inr (E, y))) := fun x1 e => by
  have := congrArg Prod.fst (Sum.inr.inj (Option.some.inj e))
  exact absurd this h
theorem UR.rr {f : Option ((Int32 × XV) ⊕ (String × XV))} (h : UR f) {r : (Int32 × XV) ⊕ (String × XV)} (e : f = some r) : ∀ x1, r = .inr (UOE, x1) → ∃ q, f_X3_rejectionReason x1 = some (.inl (q, x1)) := fun x1 h1 => by
  have h2 := h x1 (by rw [e, h1])
  unfold f_X3_rejectionReason f_X3_requireRejection
  exact ⟨Mg_latestReason x1.1, by rw [if_neg h2, bd_s, bx_inl]⟩
theorem UR.chg (x : XV) (k a b : Int32) : UR (f_X3_changeUnlessRejected x k a b) := by
  unfold f_X3_changeUnlessRejected
  cases h1 : f_X0_reasonAgainst x.2.1 k a b with
  | none => exact UR.n
  | some r1 =>
    rw [bd_s]
    by_cases e : r1 = 0
    · rw [if_pos e]
      cases h2 : f_X1_remember (x.2.2.2.2.1, x.2.2.2.2.2.2.2, x.2.1) with
      | none => exact UR.n
      | some r4 =>
        rw [bd_s]
        cases h3 : f_X0_carryOut r4.2.2.2 k a b with
        | none => exact UR.n
        | some r6 =>
          rw [bd_s]
          exact UR.l
    · rw [if_neg e]
      cases h2 : f_X0_detailOf x.2.1 r1 k a b with
      | none => exact UR.n
      | some r8 =>
        rw [bd_s]
        unfold f_X3_noteRejection
        rw [bd_s]
        intro x1 hx
        have hx2 := congrArg Prod.snd (Sum.inr.inj (Option.some.inj hx))
        have hx3 : Mg_latestReason x1.1 = r1 := (congrArg (fun z : XV => Mg_latestReason z.1) hx2).symm
        rw [hx3]
        exact e
theorem UR.page {x : XV} {p : Int32} {F : Int32 × XV → Option ((Int32 × XV) ⊕ (String × XV))} (h : UR (F (0, x))) : UR (bd (f_X3_requirePage x p) (fun r1 => bx r1 F (fun r1 => some (.inr r1)))) := by
  rw [x_reqPage, bd_s]
  by_cases e : 0 ≤ p ∧ p < 60
  · rw [if_pos e, bx_inl]
    exact h
  · rw [if_neg e, bx_inr]
    exact UR.e (by decide)
theorem UR.mark {x : XV} {p : Int32} {F : Int32 × XV → Option ((Int32 × XV) ⊕ (String × XV))} (h : ∀ i, UR (F (i, x))) : UR (bd (f_X3_requireMark x p) (fun r1 => bx r1 F (fun r1 => some (.inr r1)))) := by
  cases e : f_X0_slotWithId x.2.1 p with
  | none =>
    unfold f_X3_requireMark
    rw [e]
    exact UR.n
  | some s =>
    rw [x_reqMark e, bd_s]
    by_cases e2 : s = -1
    · rw [if_pos e2, bx_inr]
      exact UR.e (by decide)
    · rw [if_neg e2, bx_inl]
      exact h s
theorem UR.id {f : Option ((Int32 × XV) ⊕ (String × XV))} (h : UR f) : UR (bd f (fun r5 => bx r5 (fun r5 => some (.inl (r5.1, r5.2))) (fun r5 => some (.inr r5)))) := by
  rw [bx_id]
  exact h
section CHGS
variable {N : Nat} {x : XV}
abbrev Chg (codes : List String) (N : Nat) (f : Option ((Int32 × XV) ⊕ (String × XV))) : Prop := ∃ r, f = some r ∧ codesOk codes r ∧ (∀ x1, r = .inr (UOE, x1) → ∃ q, f_X3_rejectionReason x1 = some (.inl (q, x1))) ∧ IV N (sndR r)
theorem Chg.of {codes : List String} {f : Option ((Int32 × XV) ⊕ (String × XV))} {fm : Option (Int32 × MdV)} (h : Ag codes N f fm) (u : UR f) : Chg codes N f := by
  obtain ⟨r, h1, h2, h3⟩ := h.iv
  exact ⟨r, h1, h2, u.rr h1, h3⟩
theorem i_addRibbon (h : IV N x) (hN : N < 2 ^ 27) (p w : Int32) : Chg [IOOBE, IAE, UOE] (N + 1) (f_X3_addRibbon x p w) := by
  obtain ⟨m, h⟩ := h
  refine Chg.of (ag_addRibbon h (by omega) p w) ?_
  unfold f_X3_addRibbon
  refine UR.page ?_
  show UR (bd (f_X3_requireWeight x w) _)
  rw [x_reqWeight, bd_s]
  by_cases e : 1 ≤ w ∧ w ≤ 9
  · rw [if_pos e, bx_inl]
    exact UR.id (UR.chg _ _ _ _)
  · rw [if_neg e, bx_inr]
    exact UR.e (by decide)
theorem i_addDogEar (h : IV N x) (hN : N < 2 ^ 27) (p w : Int32) : Chg [IOOBE, IAE, UOE] (N + 1) (f_X3_addDogEar x p w) := by
  obtain ⟨m, h⟩ := h
  refine Chg.of (ag_addDogEar h (by omega) p w) ?_
  unfold f_X3_addDogEar
  refine UR.page ?_
  show UR (bd (f_X3_requireWeight x w) _)
  rw [x_reqWeight, bd_s]
  by_cases e : 1 ≤ w ∧ w ≤ 9
  · rw [if_pos e, bx_inl]
    exact UR.id (UR.chg _ _ _ _)
  · rw [if_neg e, bx_inr]
    exact UR.e (by decide)
theorem i_removeMark (h : IV N x) (a : Int32) : ∃ r, f_X3_removeMark x a = some r ∧ codesOk [IOOBE] r ∧ IV (N + 1) (sndR r) := by
  obtain ⟨m, h⟩ := h
  exact (ag_removeMark h a).iv
theorem i_moveRibbon (h : IV N x) (a p : Int32) : Chg [IOOBE, UOE] (N + 1) (f_X3_moveRibbon x a p) := by
  obtain ⟨m, h⟩ := h
  refine Chg.of (ag_moveRibbon h a p) ?_
  unfold f_X3_moveRibbon
  exact UR.mark fun i => UR.page (UR.id (UR.chg _ _ _ _))
theorem i_swapSeats (h : IV N x) (a b : Int32) : Chg [IOOBE, UOE] (N + 1) (f_X3_swapSeats x a b) := by
  obtain ⟨m, h⟩ := h
  refine Chg.of (ag_swapSeats h a b) ?_
  unfold f_X3_swapSeats
  exact UR.mark fun i => UR.mark fun j => UR.id (UR.chg _ _ _ _)
theorem i_startChapter (h : IV N x) (p : Int32) : Chg [IOOBE, UOE] (N + 1) (f_X3_startChapter x p) := by
  obtain ⟨m, h⟩ := h
  refine Chg.of (ag_startChapter h p) ?_
  unfold f_X3_startChapter
  exact UR.page (UR.id (UR.chg _ _ _ _))
theorem i_vote (h : IV N x) (a : Int32) : Chg [IOOBE, UOE] (N + 1) (f_X3_voteToDissolve x a) := by
  obtain ⟨m, h⟩ := h
  refine Chg.of (ag_voteToDissolve h a) ?_
  unfold f_X3_voteToDissolve
  rw [x_reqChapter, bd_s]
  by_cases e : 0 ≤ a ∧ a < Bk_chapters x.2.1
  · rw [if_pos e, bx_inl]
    cases h2 : f_X3_changeUnlessRejected x 86 a 0 with
    | none =>
      exact UR.n
    | some r =>
      rw [bd_s]
      cases r with
      | inl q =>
        rw [bx_inl]
        unfold f_X3_voteToDissolve_B22
        rw [gd_z1, gd_z0]
        by_cases e2 : q.1 = 1
        · rw [if_pos e2]
          exact UR.l
        · rw [if_neg e2]
          exact UR.l
      | inr q =>
        rw [bx_inr]
        intro x1 hx
        exact UR.chg x 86 a 0 x1 (h2.trans hx)
  · rw [if_neg e, bx_inr]
    exact UR.e (by decide)
theorem i_turnPages (h : IV N x) (a : Int32) (fwd : Bool) : Chg [IAE, UOE] (N + 1) (f_X3_turnPages x a (b2 fwd)) := by
  obtain ⟨m, h⟩ := h
  refine Chg.of (ag_turnPages h a fwd) ?_
  unfold f_X3_turnPages f_X3_turnPages_B17
  rw [x_reqCount, bd_s]
  by_cases e : 1 ≤ a ∧ a ≤ 20
  · rw [if_pos e, bx_inl]
    cases fwd
    · rw [if_pos b2_f]
      exact UR.id (UR.chg _ _ _ _)
    · rw [if_neg (by decide)]
      exact UR.id (UR.chg _ _ _ _)
  · rw [if_neg e, bx_inr]
    exact UR.e (by decide)
end CHGS
/-! ranks -/
theorem php : ∀ (n : Nat) (l : List Nat), l.Nodup → (∀ a ∈ l, a < n) → l.length ≤ n
  | 0, l, _, h => by
    cases l with
    | nil => exact Nat.le_refl _
    | cons a t => exact absurd (h a List.mem_cons_self) (Nat.not_lt_zero _)
  | n + 1, l, hd, h => by
    have h1 := php n (l.erase n) (hd.erase n) (fun a ha => by
      have h2 := (List.Nodup.mem_erase_iff hd).mp ha
      have := h a h2.2
      have := h2.1
      omega)
    by_cases e : n ∈ l
    · rw [List.length_erase_of_mem e] at h1
      omega
    · rw [List.erase_of_not_mem e] at h1
      omega
theorem ahd_irr (z : M5) : ahd z z = false := by
  cases h : ahd z z with
  | false => rfl
  | true =>
    have := ahd_iff.mp h
    rcases this with h1 | ⟨-, ⟨h1, h2⟩ | ⟨-, h1⟩⟩
    · exact absurd h1 (Nat.lt_irrefl _)
    · exact absurd h2 h1
    · exact absurd h1 (Nat.lt_irrefl _)
theorem sum_one (L : List M5) : (L.map fun _ => 1).sum = L.length := by
  induction L with
  | nil => rfl
  | cons a t ih => rw [List.map_cons, List.sum_cons, ih, List.length_cons, Nat.add_comm]
theorem rnk_len {L : List M5} {z : M5} (hz : z ∈ L) : rnk L z < L.length := by
  have h := sum_lt (L := L) (u := fun y => if ahd y z = true then 1 else 0) (w := fun _ => 1) (fun y _ => by
    show (if ahd y z = true then 1 else 0) ≤ 1
    split
    · exact Nat.le_refl _
    · exact Nat.zero_le _) hz (by
    show (if ahd z z = true then 1 else 0) < 1
    rw [ahd_irr, if_neg Bool.false_ne_true]
    exact Nat.zero_lt_one)
  rw [sum_one] at h
  exact h
theorem rnk_surj {L : List M5} {nid : Nat} (h5 : okL nid L) {j : Nat} (hj : j < L.length) : ∃ z, z ∈ L ∧ rnk L z = j := by
  apply Classical.byContradiction
  intro hno
  have hnd : (L.map (rnk L)).Nodup := by
    refine List.pairwise_map.mpr ?_
    refine h5.2.2.2.imp_of_mem ?_
    intro a b ha hb hab e
    have := rnk_one h5 ha hb e
    exact hab.1 (congrArg mId this)
  have h := php L.length (j :: L.map (rnk L)) (List.nodup_cons.mpr ⟨fun hm => ?_, hnd⟩) (fun a ha => ?_)
  · rw [List.length_cons, List.length_map] at h
    omega
  · obtain ⟨z, hz, e⟩ := List.mem_map.mp hm
    exact hno ⟨z, hz, e⟩
  · rcases List.mem_cons.mp ha with rfl | ha
    · exact hj
    · obtain ⟨z, hz, rfl⟩ := List.mem_map.mp ha
      exact rnk_len hz
/-! rows -/
section RWS
variable {K : KT} {cc : ByteArray} {own : String} {rm : Room} {g : G0} {cells slots : Nat} {ws ws' : va_W} {lv lv' : List (Nat × Value)} {st rest : List Value} {pc : Nat}
theorem V_ior (C : KX K cc own rm g) {x y : Int32} (pc' : Nat) (hd : decode cc pc = .ok (.ior, 1)) (hp : pc + 1 = pc') (kk : V K cells slots ws lv (.int (x ||| y) :: rest) pc') : V K cells slots ws lv (.int y :: .int x :: rest) pc := by
  subst hp
  intro H locs ls hP hD hS hl
  exact lv_ior C.1 C.2.1 hd (kk H locs ls hP hD hS hl)
theorem V_iushr (C : KX K cc own rm g) {x y v : Int32} (pc' : Nat) (hd : decode cc pc = .ok (.iushr, 1)) (hp : pc + 1 = pc') (hv : (x.toUInt32 >>> (y.toUInt32 &&& Int32.toUInt32 31)).toInt32 = v) (kk : V K cells slots ws lv (.int v :: rest) pc') : V K cells slots ws lv (.int y :: .int x :: rest) pc := by
  subst hp
  intro H locs ls hP hD hS hl
  exact lv_iushr C.1 C.2.1 hd hv (kk H locs ls hP hD hS hl)
theorem V_fcmp (C : KX K cc own rm g) {x y : UInt32} {op : CmpOp} {v : Int32} (pc' : Nat) (hd : decode cc pc = .ok (.fcmp op, 1)) (hp : pc + 1 = pc') (hv : Op.cmpValue (FP.fcmp x y) op = v) (kk : V K cells slots ws lv (.int v :: rest) pc') : V K cells slots ws lv (.float y :: .float x :: rest) pc := by
  subst hp
  subst hv
  intro H locs ls hP hD hS hl
  exact lv_fcmp C.1 C.2.1 hd (kk H locs ls hP hD hS hl)
/-- a row of ints: only the places that it has count -/
theorem V_icg {a n : Nat} {f f' : Nat → Int32} (q0 : Nat) (he : ws[q0]? = some (a, aI g n f)) (hf : ∀ j, j < n → f j = f' j) (hw : ws.set q0 (a, aI g n f') = ws') (kk : V K cells slots ws' lv st pc) : V K cells slots ws lv st pc := by
  subst hw
  intro H locs ls hP hD hS hl
  refine kk H locs ls (hP.set hD he ?_ (fun q _ => rfl)) (hD.set he) hS hl
  show H[a]? = some (vp_cell g.1 (n, .inl f'))
  rw [← arrV_ext9 hf]
  exact hP q0 _ he
end RWS
