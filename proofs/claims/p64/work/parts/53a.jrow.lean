/-! ===== text building: rows ===== -/
section JROWS
variable {K : KT} {cc : ByteArray} {own : String} {rm : Room} {g : G0} {cells slots : Nat} {ws ws' : va_W} {lv lv' : List (Nat × Value)} {st rest : List Value} {pc : Nat}
theorem V_ldc (C : KX K cc own rm g) {index : Nat} (v : Int32) (pc' : Nat) (hw : Cond.constant own index v ∈ wU) (hd : decode cc pc = .ok (.ldc index, 2)) (hp : pc + 2 = pc') (kk : V K cells slots ws lv (.int v :: rest) pc') : V K cells slots ws lv rest pc := by
  subst hp
  intro H locs ls hP hD hS hl
  exact lv_ldc C.1 C.2.1 C.2.2.2.1 (C.2.2.1 _ hw) hd (kk H locs ls hP hD hS hl)
theorem V_mmin (C : KX K cc own rm g) {index : Nat} {x y : Int32} (pc' : Nat) (hw : Cond.methodLink own index yJ9_min_7cf53 ∈ wU) (hd : decode cc pc = .ok (.invokestatic index, 3)) (hp : pc + 3 = pc') (hroom : 1 ≤ rm.frames ∧ (rest.map fun v => v.category).sum + 13 ≤ rm.locals) (hc : cells ≤ rm.cells ∧ slots ≤ rm.slots) (kk : V K cells slots ws lv (.int (if y < x then y else x) :: rest) pc') : V K cells slots ws lv (.int y :: .int x :: rest) pc := by
  subst hp
  intro H locs ls hP hD hS hl
  have hR2 : kR K = rm := C.2.2.2.2.2.2.1
  exact va_mmin C.1 C.2.1 (by rw [C.2.2.2.2.2.1, hl.1]) C.2.2.2.1 (C.2.2.1 _ hw) (C.2.2.1 _ q464) (C.2.2.1 _ q77) (C.2.2.1 _ q465) (by rw [hR2]; exact hroom.1) (by rw [hR2]; exact hroom.2) (by rw [hR2]; exact hc.1) (by rw [hR2]; exact hc.2) hd (kk H locs ls hP hD hS hl)
theorem V_mmax (C : KX K cc own rm g) {index : Nat} {x y : Int32} (pc' : Nat) (hw : Cond.methodLink own index yJ9_max_7cf53 ∈ wU) (hd : decode cc pc = .ok (.invokestatic index, 3)) (hp : pc + 3 = pc') (hroom : 1 ≤ rm.frames ∧ (rest.map fun v => v.category).sum + 13 ≤ rm.locals) (hc : cells ≤ rm.cells ∧ slots ≤ rm.slots) (kk : V K cells slots ws lv (.int (if x < y then y else x) :: rest) pc') : V K cells slots ws lv (.int y :: .int x :: rest) pc := by
  subst hp
  intro H locs ls hP hD hS hl
  have hR2 : kR K = rm := C.2.2.2.2.2.2.1
  exact va_mmax C.1 C.2.1 (by rw [C.2.2.2.2.2.1, hl.1]) C.2.2.2.1 (C.2.2.1 _ hw) (C.2.2.1 _ q446) (C.2.2.1 _ q77) (C.2.2.1 _ q447) (by rw [hR2]; exact hroom.1) (by rw [hR2]; exact hroom.2) (by rw [hR2]; exact hc.1) (by rw [hR2]; exact hc.2) hd (kk H locs ls hP hD hS hl)
/-- what is no longer looked at -/
theorem V_drop {ex : va_W} (k : V K cells slots ws lv st pc) : V K cells slots (ws ++ ex) lv st pc := fun H locs ls hP hD hS hl => k H locs ls hP.lf hD.lf hS hl
theorem V_wid {c2 s2 : Nat} (h1 : cells ≤ c2) (h2 : slots ≤ s2) (k : V K c2 s2 ws lv st pc) : V K cells slots ws lv st pc := fun H locs ls hP hD hS hl => W.widen h1 h2 (k H locs ls hP hD hS hl)
end JROWS
theorem V_bcopy {K : KT} {cc : ByteArray} {own : String} {rm : Room} {g : G0} {cells slots : Nat} {ws : va_W} {lv : List (Nat × Value)} {rest : List Value} {pc : Nat} (C : KX K cc own rm g) (hBA : kA K = kB K) {idx a0 a N0 N1 k : Nat} {f h : Nat → Int32} (q0 q1 pc' : Nat) (ws' : va_W) (al : AL own idx) (hd : decode cc pc = .ok (.invokestatic idx, 3)) (hp : pc + 3 = pc') (ha0 : ws[q0]? = some (a0, aB g N0 f)) (ha1 : ws[q1]? = some (a, aB g N1 h)) (hk0 : k ≤ N0) (hk1 : k ≤ N1) (hk2 : k ≤ N0) (hkb : k < 2 ^ 31) (hf : sb_Fit f) (hroom : 1 ≤ rm.frames ∧ (rest.map fun v => v.category).sum + (nativeFrameWords "java/lang/System" "arraycopy" 5 + 11) ≤ rm.locals) (hw : ws.set q1 (a, aB g N1 (va_cpy f h 0 0 k)) = ws') (kk : V K cells slots ws' lv rest pc') : V K cells slots ws lv (.int (nI k) :: .int 0 :: .ref a :: .int 0 :: .ref a0 :: rest) pc := by
  subst hp
  subst hw
  obtain ⟨w1, w2, w3, w4⟩ := al
  have hR2 : kR K = rm := C.2.2.2.2.2.2.1
  intro H locs ls hP hD hS hl
  have z0 : (0 : Int32).toNatClampNeg = 0 := by decide
  have zk : (nI k).toNatClampNeg = k := cl_n hkb
  refine va_copyi (A := kA K) C.1 C.2.1 (by rw [C.2.2.2.2.2.1, hl.1]) C.2.2.2.1 (C.2.2.1 _ w1) (C.2.2.1 _ w2) (C.2.2.1 _ w3) (C.2.2.1 _ w4) C.2.2.2.2.1 hP (by rw [hBA]; exact hD) hS q0 q1 2 2 ha0 ha1 rfl rfl rfl (by decide) (by decide) (nI_pos hkb) (by rw [z0, zk]; omega) (by rw [z0, zk]; omega) (fun i _ => hf _) (by rw [hR2]; exact hroom.1) (by rw [hR2]; exact hroom.2) hd (fun H1 locs1 hP1 hD1 hS1 => ?_)
  rw [z0, zk] at hP1 hD1
  exact kk H1 locs1 ls hP1 (by rw [← hBA]; exact hD1) hS1 hl
