/-! copies to and from a book of the history -/
theorem c_copy {l : Launch} {D : va_G} {g : G0} {A A2 : BkA} (v w : BkV) : CtS l D g yX0_copyFrom cX0_copyFrom 2 none (rmF 1 30) (bkW g A v ++ bkW g A2 w) [.ref A.1, .ref A2.1] none (bkW g A w ++ bkW g A2 w) := c_X0_copyFrom (v := (v, w)) (R := (0, (w, w))) rfl
section VCP
variable {K : KT} {cc : ByteArray} {own : String} {g : G0} {cells slots : Nat} {lv : List (Nat × Value)} {rest : List Value} {pc idx : Nat} {rm : Room}
theorem V_cpTo (C : KX K cc own rm g) (hBA : kA K = kB K) {pre : va_W} {hA : Nat → BkA} {hb : Nat → BkV} {As : BkA} {v : BkV} {j : Nat} (ml : CLv own idx 0 yX0_copyFrom cX0_copyFrom 2 none 1) (hj : j < 8) (pc' : Nat) (hd : decode cc pc = .ok (.invokevirtual idx, 3)) (hp : pc + 3 = pc') (hR : 1 + 1 ≤ rm.frames ∧ 8 + (2 + 11) + 30 ≤ rm.locals) (kk : V K 0 0 (pre ++ (hbW g hA (va_up hb j v) ++ bkW g As v)) lv rest pc') (hrm : (rest.map fun v => v.category).sum ≤ 8 := by decide) : V K 0 0 (pre ++ (hbW g hA hb ++ bkW g As v)) lv (.ref As.1 :: .ref (hA j).1 :: rest) pc := by
  have e1 : ((bkW g (hA j) (hb j) ++ bkW g As v) ++ (pre ++ hbR g j hA hb)).Perm (pre ++ (hbW g hA hb ++ bkW g As v)) := by
    have h := hbW_perm g hA hb hj
    refine List.Perm.trans ?_ ((List.Perm.refl pre).append (h.symm.append (List.Perm.refl (bkW g As v))))
    refine List.perm_append_comm.trans ?_
    rw [List.append_assoc]
    refine (List.Perm.refl pre).append ?_
    refine List.Perm.trans ?_ (List.perm_append_comm.append (List.Perm.refl _))
    rw [List.append_assoc]
  have e2 : (pre ++ (hbW g hA (va_up hb j v) ++ bkW g As v)).Perm ((bkW g (hA j) v ++ bkW g As v) ++ (pre ++ hbR g j hA hb)) := by
    have h := hbW_up g hA hb hj v
    refine List.Perm.trans ((List.Perm.refl pre).append (h.append (List.Perm.refl (bkW g As v)))) ?_
    refine List.Perm.trans ?_ List.perm_append_comm
    simp only [List.append_assoc]
    exact (List.Perm.refl pre).append (List.perm_append_comm_assoc _ _ _)
  refine V_perm e1 ?_
  refine V_callS C hBA ml (pre := []) (post := pre ++ hbR g j hA hb) (w0 := bkW g (hA j) (hb j) ++ bkW g As v) (w1 := bkW g (hA j) v ++ bkW g As v) (as := [.ref As.1]) (rest := rest) (c_copy (hb j) v) 0 pc' _ hd hp hR rfl rfl rfl rfl rfl rfl rfl hrm ⟨Nat.zero_le _, Nat.zero_le _⟩ ?_
  exact V_perm e2 kk
theorem V_cpFr (C : KX K cc own rm g) (hBA : kA K = kB K) {pre : va_W} {hA : Nat → BkA} {hb : Nat → BkV} {As : BkA} {v : BkV} {j : Nat} (ml : CLv own idx 0 yX0_copyFrom cX0_copyFrom 2 none 1) (hj : j < 8) (pc' : Nat) (hd : decode cc pc = .ok (.invokevirtual idx, 3)) (hp : pc + 3 = pc') (hR : 1 + 1 ≤ rm.frames ∧ 8 + (2 + 11) + 30 ≤ rm.locals) (kk : V K 0 0 (pre ++ (hbW g hA hb ++ bkW g As (hb j))) lv rest pc') (hrm : (rest.map fun v => v.category).sum ≤ 8 := by decide) : V K 0 0 (pre ++ (hbW g hA hb ++ bkW g As v)) lv (.ref (hA j).1 :: .ref As.1 :: rest) pc := by
  have e1 : ∀ x : BkV, ((bkW g As x ++ bkW g (hA j) (hb j)) ++ (pre ++ hbR g j hA hb)).Perm (pre ++ (hbW g hA hb ++ bkW g As x)) := by
    intro x
    have h := hbW_perm g hA hb hj
    refine List.Perm.trans ?_ ((List.Perm.refl pre).append (h.symm.append (List.Perm.refl (bkW g As x))))
    refine List.perm_append_comm.trans ?_
    rw [List.append_assoc]
    refine (List.Perm.refl pre).append ?_
    refine List.Perm.trans ?_ (List.perm_append_comm.append (List.Perm.refl _))
    rw [List.append_assoc]
    refine (List.Perm.refl _).append ?_
    exact List.perm_append_comm
  refine V_perm (e1 v) ?_
  refine V_callS C hBA ml (pre := []) (post := pre ++ hbR g j hA hb) (w0 := bkW g As v ++ bkW g (hA j) (hb j)) (w1 := bkW g As (hb j) ++ bkW g (hA j) (hb j)) (as := [.ref (hA j).1]) (rest := rest) (c_copy v (hb j)) 0 pc' _ hd hp hR rfl rfl rfl rfl rfl rfl rfl hrm ⟨Nat.zero_le _, Nat.zero_le _⟩ ?_
  exact V_perm (e1 (hb j)).symm kk
end VCP
