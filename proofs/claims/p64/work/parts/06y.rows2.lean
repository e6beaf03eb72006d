/-! a whole row copied; rows of objects; a world in another order -/
theorem arrV_ext9 {cA : ClassId} {n : Nat} {f f' : Nat → Int32} (h : ∀ j, j < n → f j = f' j) : vp_cell cA (n, .inl f) = vp_cell cA (n, .inl f') := by
  show arrV cA n (fun j => .int (f j)) = arrV cA n (fun j => .int (f' j))
  unfold arrV
  congr 1
  apply Array.ext
  · simp
  · intro i h1 h2
    have hi : i < n := by simpa using h1
    simp [h i hi]
/-- the words of System.arraycopy -/
def AL (own : String) (idx : Nat) : Prop := Cond.methodLink own idx arraycopyName ∈ wU ∧ Cond.native arraycopyName ∈ wU ∧ Cond.static arraycopyName ∈ wU ∧ Cond.initialized "java/lang/System" ∈ wU
section VBOOKS
variable {K : KT} {cc : ByteArray} {own : String} {rm : Room} {g : G0} {cells slots : Nat} {ws ws' : va_W} {lv lv' : List (Nat × Value)} {st rest : List Value} {pc : Nat}
theorem V_acopy (C : KX K cc own rm g) (hBA : kA K = kB K) {idx a0 a N : Nat} {f h : Nat → Int32} {n : Int32} (q0 q1 pc' : Nat) (ws' : va_W) (al : AL own idx) (hd : decode cc pc = .ok (.invokestatic idx, 3)) (hp : pc + 3 = pc') (ha0 : ws[q0]? = some (a0, aI g N f)) (ha1 : ws[q1]? = some (a, aI g N h)) (hN : n.toNatClampNeg = N) (hn : ¬ n < 0) (hroom : 1 ≤ rm.frames ∧ (rest.map fun v => v.category).sum + (nativeFrameWords "java/lang/System" "arraycopy" 5 + 11) ≤ rm.locals) (hw : ws.set q1 (a, aI g N f) = ws') (kk : V K cells slots ws' lv rest pc') : V K cells slots ws lv (.int n :: .int 0 :: .ref a :: .int 0 :: .ref a0 :: rest) pc := by
  subst hp
  subst hw
  obtain ⟨w1, w2, w3, w4⟩ := al
  have hR2 : kR K = rm := C.2.2.2.2.2.2.1
  intro H locs ls hP hD hS hl
  have z0 : (0 : Int32).toNatClampNeg = 0 := by decide
  refine va_copyi (A := kA K) C.1 C.2.1 (by rw [C.2.2.2.2.2.1, hl.1]) C.2.2.2.1 (C.2.2.1 _ w1) (C.2.2.1 _ w2) (C.2.2.1 _ w3) (C.2.2.1 _ w4) C.2.2.2.2.1 hP (by rw [hBA]; exact hD) hS q0 q1 0 0 ha0 ha1 rfl rfl rfl (by decide) (by decide) hn (by rw [z0, hN]; omega) (by rw [z0, hN]; omega) (fun _ _ => rfl) (by rw [hR2]; exact hroom.1) (by rw [hR2]; exact hroom.2) hd (fun H1 locs1 hP1 hD1 hS1 => ?_)
  have hc : vp_cell g.1 (N, .inl (va_cpy f h (0 : Int32).toNatClampNeg (0 : Int32).toNatClampNeg n.toNatClampNeg)) = vp_cell g.1 (N, .inl f) := by
    refine arrV_ext9 fun j hj => ?_
    rw [z0, hN, pk_cpy_in (Nat.zero_le j) (by omega)]
    simp
  refine kk H1 locs1 ls ?_ ?_ hS1 hl
  · intro k q hk
    have hlen := (List.getElem?_eq_some_iff.mp ha1).1
    by_cases hkq : k = q1
    · subst hkq
      rw [List.getElem?_set_self hlen] at hk
      cases hk
      have h1 := hP1 k _ (List.getElem?_set_self hlen)
      show H1[a]? = some (vp_cell g.1 (N, .inl f))
      rw [← hc]
      exact h1
    · rw [List.getElem?_set_ne (Ne.symm hkq)] at hk
      exact hP1 k q (by rw [List.getElem?_set_ne (Ne.symm hkq)]; exact hk)
  · have := hD.set (e := aI g N f) ha1
    exact this
/-- the same cells in another order -/
theorem va_P.perm {D : va_G} {cl : List vw_C} {a b : va_W} {H : Heap} (h : va_P D cl a H) (e : b.Perm a) : va_P D cl b H := fun k q hk => by
  obtain ⟨i, hi⟩ := List.getElem?_of_mem (e.mem_iff.mp (List.mem_of_getElem? hk))
  exact h i q hi
theorem va_D_nodup {A : Nat → Prop} {a : va_W} : va_D A a ↔ (a.map Prod.fst).Nodup ∧ ∀ q ∈ a, A q.1 := by
  constructor
  · intro h
    refine ⟨List.pairwise_iff_getElem.mpr ?_, fun q hq => ?_⟩
    · intro i j hi hj hij e
      rw [List.length_map] at hi hj
      rw [List.getElem_map, List.getElem_map] at e
      have := h.1 i j _ _ (List.getElem?_eq_getElem hi) (List.getElem?_eq_getElem hj) e
      omega
    · obtain ⟨i, hi⟩ := List.getElem?_of_mem hq
      exact h.2 i q hi
  · rintro ⟨h1, h2⟩
    refine ⟨fun i j p q hi hj e => ?_, fun k q hk => h2 q (List.mem_of_getElem? hk)⟩
    have h1 := List.pairwise_iff_getElem.mp h1
    obtain ⟨li, ei⟩ := List.getElem?_eq_some_iff.mp hi
    obtain ⟨lj, ej⟩ := List.getElem?_eq_some_iff.mp hj
    rcases Nat.lt_trichotomy i j with h | h | h
    · exact absurd (by rw [List.getElem_map, List.getElem_map, ei, ej]; exact e) (h1 i j (by rw [List.length_map]; exact li) (by rw [List.length_map]; exact lj) h)
    · exact h
    · exact absurd (by rw [List.getElem_map, List.getElem_map, ei, ej]; exact e.symm) (h1 j i (by rw [List.length_map]; exact lj) (by rw [List.length_map]; exact li) h)
theorem va_D.perm {A : Nat → Prop} {a b : va_W} (h : va_D A a) (e : b.Perm a) : va_D A b := by
  rw [va_D_nodup] at h ⊢
  exact ⟨(e.map Prod.fst).nodup_iff.mpr h.1, fun q hq => h.2 q (e.mem_iff.mp hq)⟩
theorem V_perm {ws2 : va_W} (e : ws2.Perm ws) (k : V K cells slots ws2 lv st pc) : V K cells slots ws lv st pc :=
  fun H locs ls hP hD hS hl => k H locs ls (hP.perm e) (hD.perm e) hS hl
theorem V_aald (C : KX K cc own rm g) {a n : Nat} {f : Nat → Option Nat} {i : Int32} {v : Value} (q0 pc' : Nat) (hd : decode cc pc = .ok (.aaload, 1)) (hp : pc + 1 = pc') (ha : ws[q0]? = some (a, aO g n f)) (hin : inb i n = true) (hv : va_rf (f (cl i)) = v) (kk : V K cells slots ws lv (v :: rest) pc') : V K cells slots ws lv (.int i :: .ref a :: rest) pc := by
  subst hp
  subst hv
  intro H locs ls hP hD hS hl
  exact va_aldq C.1 C.2.1 C.2.2.2.2.1 hP q0 5 ha rfl (inb_t hin) hd (kk H locs ls hP hD hS hl)
/-- a world's pieces, joined -/
def jn : List va_W → va_W
  | [] => []
  | [c] => c
  | c :: d :: cs => c ++ jn (d :: cs)
theorem jn_flat : ∀ cs : List va_W, jn cs = cs.flatten
  | [] => rfl
  | [c] => by simp [jn]
  | c :: d :: cs => by
    show c ++ jn (d :: cs) = (c :: d :: cs).flatten
    rw [jn_flat (d :: cs), List.flatten_cons (L := d :: cs)]
theorem pick_all {α : Type} : ∀ l : List α, (List.range l.length).filterMap (fun i => l[i]?) = l
  | [] => rfl
  | a :: l => by
    have h := pick_all l
    rw [List.length_cons, List.range_succ_eq_map, List.filterMap_cons]
    simp only [List.getElem?_cons_zero, List.filterMap_map, Function.comp_def, Nat.succ_eq_add_one, List.getElem?_cons_succ]
    rw [h]
theorem perm_pick {α : Type} (l : List α) {is : List Nat} (h : is.Perm (List.range l.length)) : (is.filterMap (fun i => l[i]?)).Perm l :=
  (h.filterMap _).trans (List.Perm.of_eq (pick_all l))
theorem V_permc (cs : List va_W) (is : List Nat) (n : Nat) {ws2 : va_W} (hw : ws = jn cs) (hn : cs.length = n) (hp : is.Perm (List.range n)) (hw2 : jn (is.filterMap (fun i => cs[i]?)) = ws2) (k : V K cells slots ws2 lv st pc) : V K cells slots ws lv st pc := by
  subst hn
  refine V_perm ?_ k
  rw [← hw2, hw, jn_flat, jn_flat]
  exact (perm_pick cs hp).flatten
end VBOOKS
theorem inb_lt {i : Int32} {n : Nat} (h : inb i n = true) : cl i < n := by
  have := inb_t h
  unfold vp_in at this
  unfold cl
  omega
