/-! ===== text building: rows ===== -/
section JROWS
variable {K : KT} {cc : ByteArray} {own : String} {rm : Room} {g : G0} {cells slots : Nat} {ws ws' : va_W} {lv lv' : List (Nat × Value)} {st rest : List Value} {pc : Nat}
theorem V_ldc (C : KX K cc own rm g) {index : Nat} (v : Int32) (pc' : Nat) (hw : Cond.constant own index v ∈ wU) (hd : decode cc pc = .ok (.ldc index, 2)) (hp : pc + 2 = pc') (kk : V K cells slots ws lv (.int v :: rest) pc') : V K cells slots ws lv rest pc := by
  subst hp
  intro H locs ls hP hD hS hl
  exact lv_ldc C.1 C.2.1 C.2.2.2.1 (C.2.2.1 _ hw) hd (kk H locs ls hP hD hS hl)
theorem V_mmin (C : KX K cc own rm g) {index : Nat} {x y : Int32} (pc' : Nat) (hw : Cond.methodLink own index yJ9_min_7cf53 ∈ wU) (hd : decode cc pc = .ok (.invokestatic index, 3)) (hp : pc + 3 = pc') (hroom : 1 ≤ rm.frames ∧ (rest.map fun v => v.category).sum + 13 ≤ rm.locals) (hc : cells ≤ rm.cells ∧ slots ≤ rm.slots) (kk : V K cells slots ws lv (.int (if y < x then y else x) :: rest) pc') : V K cells slots ws lv (.int y :: .int x :: rest) pc := by
  subst hp
  intro H locs ls hP hD hS hl
  have hR2 : kR K = rm := C.2.2.2.2.2.2.1
  exact va_mmin C.1 C.2.1 (by rw [C.2.2.2.2.2.1, hl.1]) C.2.2.2.1 (C.2.2.1 _ hw) (C.2.2.1 _ q464) (C.2.2.1 _ q77) (C.2.2.1 _ q465) (by rw [hR2]; exact hroom.1) (by rw [hR2]; exact hroom.2) (by rw [hR2]; exact hc.1) (by rw [hR2]; exact hc.2) hd (kk H locs ls hP hD hS hl)
theorem V_mmax (C : KX K cc own rm g) {index : Nat} {x y : Int32} (pc' : Nat) (hw : Cond.methodLink own index yJ9_max_7cf53 ∈ wU) (hd : decode cc pc = .ok (.invokestatic index, 3)) (hp : pc + 3 = pc') (hroom : 1 ≤ rm.frames ∧ (rest.map fun v => v.category).sum + 13 ≤ rm.locals) (hc : cells ≤ rm.cells ∧ slots ≤ rm.slots) (kk : V K cells slots ws lv (.int (if x < y then y else x) :: rest) pc') : V K cells slots ws lv (.int y :: .int x :: rest) pc := by
  subst hp
  intro H locs ls hP hD hS hl
  have hR2 : kR K = rm := C.2.2.2.2.2.2.1
  exact va_mmax C.1 C.2.1 (by rw [C.2.2.2.2.2.1, hl.1]) C.2.2.2.1 (C.2.2.1 _ hw) (C.2.2.1 _ q446) (C.2.2.1 _ q77) (C.2.2.1 _ q447) (by rw [hR2]; exact hroom.1) (by rw [hR2]; exact hroom.2) (by rw [hR2]; exact hc.1) (by rw [hR2]; exact hc.2) hd (kk H locs ls hP hD hS hl)
/-- what is no longer looked at -/
theorem V_drop {ex : va_W} (k : V K cells slots ws lv st pc) : V K cells slots (ws ++ ex) lv st pc := fun H locs ls hP hD hS hl => k H locs ls hP.lf hD.lf hS hl
theorem V_wid {c2 s2 : Nat} (h1 : cells ≤ c2) (h2 : slots ≤ s2) (k : V K c2 s2 ws lv st pc) : V K cells slots ws lv st pc := fun H locs ls hP hD hS hl => W.widen h1 h2 (k H locs ls hP hD hS hl)
end JROWS
