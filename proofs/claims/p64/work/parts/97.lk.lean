/-! ===== the law: what its walk knows ===== -/
def LKx (K : KT) (g : G0) : Prop := KX K cL_law RL room_1 g ∧ kA K = kB K ∧ SBq (kD K) (kA K) (ks K) (ks K).heap ∧ (kl K).stackTraces = false ∧ kn K = 23
theorem w_lt {a b : Nat} (h : a < b) (hb : b < 2 ^ 31 := by omega) : nI a < nI b := nI_lt h hb
theorem w_nlt {a b : Nat} (h : b ≤ a) (ha : a < 2 ^ 31 := by omega) : ¬ nI a < nI b := fun e => by
  have := Int32.lt_iff_toInt_lt.mp e
  rw [nI_toInt ha, nI_toInt (by omega)] at this
  omega
theorem w_le {a b : Nat} (h : a ≤ b) (hb : b < 2 ^ 31 := by omega) : nI a ≤ nI b := nI_le h hb
theorem w_nle {a b : Nat} (h : b < a) (ha : a < 2 ^ 31 := by omega) : ¬ nI a ≤ nI b := fun e => by
  rw [nI_leI ha (by omega)] at e
  omega
theorem w_ne {a b : Nat} (h : a ≠ b) (ha : a < 2 ^ 31 := by omega) (hb : b < 2 ^ 31 := by omega) : ¬ nI a = nI b := fun e => h ((nI_eq ha hb).mp e)
section KEEP
variable {K : KT} {cells slots : Nat} {lv : List (Nat × Value)} {st : List Value} {pc : Nat}
theorem V_keep {h a b c d : va_W} (k : V K cells slots (h ++ (a ++ d)) lv st pc) : V K cells slots (h ++ (a ++ (b ++ (c ++ d)))) lv st pc := by
  refine V_perm (ws2 := (h ++ (a ++ d)) ++ (b ++ c)) ?_ (V_drop k)
  rw [List.append_assoc, List.append_assoc]
  refine List.Perm.append_left h (List.Perm.append_left a ?_)
  have := List.perm_append_comm (l₁ := d) (l₂ := b ++ c)
  rw [List.append_assoc] at this
  exact this
theorem V_rm {h b d : va_W} (k : V K cells slots (h ++ d) lv st pc) : V K cells slots (h ++ (b ++ d)) lv st pc := by
  refine V_perm (ws2 := (h ++ d) ++ b) ?_ (V_drop k)
  rw [List.append_assoc]
  exact List.Perm.append_left h List.perm_append_comm
theorem V_fst {h b n : va_W} (k : V K cells slots (h ++ (n ++ b)) lv st pc) : V K cells slots ((h ++ b) ++ n) lv st pc := by
  refine V_perm ?_ k
  rw [List.append_assoc]
  exact List.Perm.append_left h List.perm_append_comm
end KEEP
theorem xS_self (x : XV) : xS x x.2.2.2.2.2.2.1 = x := rfl
theorem aS_self (A : XA) : aS A A.2.2.2.2.2.2.1.2 = A := rfl
theorem fc_all : ∀ k : Fin 13, ∀ n : Fin 61, n.val = 0 ∨ Op.cmpValue (FP.fcmp (FP.fdiv (FP.i2f (nI k.val)) (FP.i2f (nI n.val))) (FP.fdiv (FP.i2f (nI k.val)) (FP.i2f (nI n.val)))) .l = 0 := by decide +kernel
theorem fc_ok {k n : Nat} (hk : k < 13) (hn : n < 61) (h0 : n ≠ 0) : Op.cmpValue (FP.fcmp (fsh k n) (fsh k n)) .l = 0 := (fc_all ⟨k, hk⟩ ⟨n, hn⟩).resolve_left h0
theorem IV.out {N : Nat} {x : XV} {sb : SbV} {T : List Nat} (h : IV N x) (hs : SBT sb T) (hl : T.length ≤ 110) : IV N (xS x sb) := by
  obtain ⟨m, h⟩ := h
  obtain ⟨cap, f, ml, -, -, -, -, h4⟩ := id hs
  refine ⟨_, h.out hs hl (o := fun i => nI (T.getD i 0)) (fun i c hi => ⟨?_, (h4 i c hi).2⟩)⟩
  show nI (T.getD i 0) = nI c
  rw [List.getD_eq_getElem?_getD, hi]
  rfl
theorem IV.text {N : Nat} {x : XV} (h : IV N x) : ∃ T : List Nat, SBT x.2.2.2.2.2.2.1 T := by
  obtain ⟨m, h⟩ := h
  obtain ⟨T, -, h2, -⟩ := OB.text h.2.2.2.2.2.2
  exact ⟨T, h2⟩
theorem hvy_next (w : Nat → Nat) (c : Nat) : hvy w (c + 1) = if w (hvy w c) < w c then c else hvy w c := by
  rw [hvy_step]
  by_cases e : c = 0
  · subst e
    rw [if_pos rfl]
    show 0 = if w 0 < w 0 then 0 else 0
    rw [if_neg (Nat.lt_irrefl _)]
  · rw [if_neg e]
theorem hvy_in (w : Nat → Nat) {c n : Nat} (hc : c < n) : hvy w c < n := by
  cases c with
  | zero => exact hc
  | succ c => exact Nat.lt_trans (hvy_lt w c) hc
