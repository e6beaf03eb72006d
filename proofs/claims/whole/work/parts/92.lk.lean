/-! ===== the law: what its walk knows, its pieces ===== -/
theorem V_widen {K : KT} {cells slots c2 s2 : Nat} {ws : va_W} {lv : List (Nat × Value)} {st : List Value} {pc : Nat} (h1 : cells ≤ c2) (h2 : slots ≤ s2) (kk : V K c2 s2 ws lv st pc) : V K cells slots ws lv st pc :=
  fun H locs ls hP hD hS hl => W.widen h1 h2 (kk H locs ls hP hD hS hl)
/-- what the law's walk knows -/
def LK (K : KT) (g : G0) (b L : Nat) (xs : Nat → Int32) : Prop :=
  KX K cL_law RL room_1 g ∧ kA K = kB K ∧ SBq (kA K) (ks K) (ks K).heap ∧ NcW (ks K) ∧ (kl K).stackTraces = false ∧ va_X b L xs (ks K) (ks K).heap ∧ b < (ks K).heap.size ∧ ¬ kA K b ∧ L ≤ 1536 ∧ kn K = 9
/-- the law's world: the model, the two arrays, the object -/
abbrev LW (g : G0) (A : XA) (B : MdA) (x : XV) (m : MdV) (o od : Nat) (f : Nat → Int64) (fd : Nat → UInt64) : va_W := mdW g B m ++ oW g A o od f fd x
abbrev lvL (a1 b1 b o od t : Nat) : List (Nat × Value) := [(5, .int (nI (3 * t))), (4, .ref od), (3, .ref o), (2, .ref b1), (1, .ref a1), (0, .ref b)]
/-- the end of a case -/
def LE (K : KT) (g : G0) (b o od : Nat) (B : MdA) (t cells slots : Nat) : Prop := ∀ (A : XA) (x : XV) (m : MdV) (f : Nat → Int64) (fd : Nat → UInt64), RX (30 * (t + 1)) x m → V K cells slots (LW g A B x m o od f fd) (lvL A.1 B.1 b o od t) [] 3101
/-- script[i + j] -/
theorem V_arg {K : KT} {g : G0} {b L : Nat} {xs : Nat → Int32} {cells slots : Nat} {ws : va_W} {lv : List (Nat × Value)} {st : List Value} {pc : Nat} (Lk : LK K g b L xs) {t j : Nat} {n : Int} (k0 k5 pc' : Nat) (ht : 3 * t + j < L) (d0 : decode cL_law pc = .ok (.aload_n 0, 1)) (d1 : decode cL_law (pc + 1) = .ok (.iload 5, 2)) (d2 : decode cL_law (pc + 3) = .ok (.iconst n, 1)) (d3 : decode cL_law (pc + 4) = .ok (.iadd, 1)) (d4 : decode cL_law (pc + 5) = .ok (.iaload, 1)) (hp : pc + 6 = pc') (hn : Int32.ofInt n = nI j) (h0 : lv[k0]? = some (0, .ref b)) (h5 : lv[k5]? = some (5, .int (nI (3 * t)))) (kk : V K cells slots ws lv (.int (xs (3 * t + j)) :: st) pc') : V K cells slots ws lv st pc := by
  subst hp
  obtain ⟨C, hBA, hE, hN, hst, hX, hbl, hbA, hL, h9⟩ := Lk
  refine V_aload_n C (k := 0) k0 (pc + 1) d0 rfl h0 ?_
  refine V_iload C k5 (pc + 3) d1 rfl h5 ?_
  refine V_iconst C (nI j) (pc + 4) d2 rfl hn ?_
  refine V_iadd C (pc + 5) d3 rfl ?_
  rw [show nI (3 * t) + nI j = nI (3 * t + j) from nI_add _ _]
  refine V_sld C hX hbl hbA (pc + 6) d4 rfl (inb_of (vp_in_nI ht (by omega))) ?_
  rw [cl_n (by omega)]
  exact kk
theorem Ag.wI {codes : List String} {N : Nat} {fx : Option ((Int32 × XV) ⊕ (String × XV))} {fm : Option (Int32 × MdV)} (h : Ag codes N fx fm) (hn : codes.Nodup) (hl : codes.length < 100) : ∃ (R : (Int32 × XV) ⊕ (String × XV)) (r : Int32) (m' : MdV), fx = some R ∧ fm = some (r, m') ∧ codesOk codes R ∧ ∀ g A o od fd rv w1, wI g A o od fd codes R rv w1 → ∃ (kv : Int32) (f' : Nat → Int64) (x' : XV), rv = some (.int kv) ∧ w1 = oW g A o od f' fd x' ∧ Md_thrown m' = kv ∧ (kv = 0 → f' 0 = r.toInt64) ∧ RX N x' m' := by
  obtain ⟨R, r, m', h1, h2, h3⟩ := h
  refine ⟨R, r, m', h1, h2, ?_, ?_⟩
  · intro q e
    subst e
    obtain ⟨⟨k, hk, -⟩, -⟩ := h3
    exact ⟨k, hk⟩
  · intro g A o od fd rv w1 hw
    cases R with
    | inl q =>
      obtain ⟨g1, g2, g3⟩ := h3
      obtain ⟨f', rfl, rfl, h0⟩ := hw
      exact ⟨0, f', q.2, rfl, rfl, g1, fun _ => by rw [h0, g2], g3⟩
    | inr q =>
      obtain ⟨⟨k, g1, g2⟩, g3⟩ := h3
      obtain ⟨f', j, hj, rfl, rfl⟩ := hw
      have e : j = k := (List.getElem?_inj (lt_get hj) hn).mp (hj.trans g1.symm)
      subst e
      have := lt_get hj
      exact ⟨nI (j + 1), f', q.2, rfl, rfl, g2, fun e => absurd ((nI_eq (by omega) (by omega)).mp (show nI (j + 1) = nI 0 from e)) (by omega), g3⟩
theorem Ag.wB {codes : List String} {N : Nat} {fx : Option ((Int32 × XV) ⊕ (String × XV))} {fm : Option (Int32 × MdV)} (h : Ag codes N fx fm) (hn : codes.Nodup) (hl : codes.length < 100) : ∃ (R : (Int32 × XV) ⊕ (String × XV)) (r : Int32) (m' : MdV), fx = some R ∧ fm = some (r, m') ∧ codesOk codes R ∧ ∀ g A o od fd rv w1, wB g A o od fd codes R rv w1 → ∃ (kv : Int32) (f' : Nat → Int64) (x' : XV), rv = some (.int kv) ∧ w1 = oW g A o od f' fd x' ∧ Md_thrown m' = kv ∧ (kv = 0 → f' 0 = (if r = 0 then 0 else 1)) ∧ RX N x' m' := by
  obtain ⟨R, r, m', h1, h2, h3⟩ := h
  refine ⟨R, r, m', h1, h2, ?_, ?_⟩
  · intro q e
    subst e
    obtain ⟨⟨k, hk, -⟩, -⟩ := h3
    exact ⟨k, hk⟩
  · intro g A o od fd rv w1 hw
    cases R with
    | inl q =>
      obtain ⟨g1, g2, g3⟩ := h3
      obtain ⟨f', rfl, rfl, h0⟩ := hw
      exact ⟨0, f', q.2, rfl, rfl, g1, fun _ => by rw [h0, g2], g3⟩
    | inr q =>
      obtain ⟨⟨k, g1, g2⟩, g3⟩ := h3
      obtain ⟨f', j, hj, rfl, rfl⟩ := hw
      have e : j = k := (List.getElem?_inj (lt_get hj) hn).mp (hj.trans g1.symm)
      subst e
      have := lt_get hj
      exact ⟨nI (j + 1), f', q.2, rfl, rfl, g2, fun e => absurd ((nI_eq (by omega) (by omega)).mp (show nI (j + 1) = nI 0 from e)) (by omega), g3⟩
theorem and63 (a : Int32) : ∃ c : Nat, c < 64 ∧ a &&& 63 = nI c := by
  refine ⟨(a &&& 63).toBitVec.toNat, ?_, ?_⟩
  · have e : (a &&& 63).toBitVec = a.toBitVec &&& 63#32 := rfl
    rw [e, BitVec.toNat_and]
    exact Nat.lt_of_le_of_lt Nat.and_le_right (by decide)
  · refine Int32.toBitVec_inj.mp ?_
    exact ((BitVec.ofNat_toNat 32 (a &&& 63).toBitVec).trans (BitVec.setWidth_eq _)).symm
