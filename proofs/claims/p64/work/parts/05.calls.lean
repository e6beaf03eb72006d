/-! fields and arrays -/
/-- what a field access needs: its class's place, its own place, its link -/
def FL (own : String) (index ci k : Nat) : Prop := ∃ (C0 : String) (T : u_T) (N : Nat), cl0[ci]? = some (C0, T, N) ∧ k < N ∧ (∀ w ∈ u_ws C0 T N, w ∈ wU) ∧ Cond.fieldLink own index (T k).1 (T k).2.1 (T k).2.2.1 ∈ wU
def FP (ci k : Nat) (ty : FieldType) : Prop := ∃ (C0 : String) (T : u_T) (N : Nat) (ty0 : Nat → FieldType), cl0[ci]? = some (C0, T, N) ∧ (∀ k, k < N → parseFieldDescriptor (T k).2.2.1 = some (ty0 k)) ∧ (∀ a, a < N → ∀ b, b < N → a ≠ b → (T a).2.1 ≠ (T b).2.1) ∧ parseFieldDescriptor (T k).2.2.1 = some ty ∧ (T k).2.2.2 = false
section VFIELDS
variable {K : KT} {cc : ByteArray} {own : String} {rm : Room} {g : G0} {cells slots : Nat} {ws ws' : va_W} {lv lv' : List (Nat × Value)} {st rest : List Value} {pc : Nat}
theorem V_get (C : KX K cc own rm g) {index ci k : Nat} {a : Nat} {fs : List Value} {v : Value} (q0 : Nat) (pc' : Nat) (fl : FL own index ci k) (hd : decode cc pc = .ok (.getfield index, 3)) (hp : pc + 3 = pc') (he : ws[q0]? = some (a, .inr (ci, fs))) (hv : fs[k]? = some v) (kk : V K cells slots ws lv (v :: rest) pc') : V K cells slots ws lv (.ref a :: rest) pc := by
  subst hp
  obtain ⟨C0, T, N, h1, h2, h3, h4⟩ := fl
  intro H locs ls hP hD hS hl
  exact va_get C.1 C.2.1 C.2.2.1 h3 C.2.2.2.1 C.2.2.2.2.1 hP q0 he h1 k h2 (C.2.2.1 _ h4) (fun _ h9 => h9) hv hd (kk H locs ls hP hD hS hl)
theorem V_put (C : KX K cc own rm g) (hBA : kA K = kB K) {index ci k : Nat} {ty : FieldType} {a : Nat} {fs : List Value} {v : Value} (q0 : Nat) (pc' : Nat) (ws' : va_W) (fl : FL own index ci k) (fp : FP ci k ty) (hd : decode cc pc = .ok (.putfield index, 3)) (hp : pc + 3 = pc') (he : ws[q0]? = some (a, .inr (ci, fs))) (hk : k < fs.length) (hn : narrow ty v = v) (hfit : fits ty v = true) (hw : ws.set q0 (a, .inr (ci, fs.set k v)) = ws') (kk : V K cells slots ws' lv rest pc') : V K cells slots ws lv (v :: .ref a :: rest) pc := by
  subst hp
  subst hw
  obtain ⟨C0, T, N, h1, h2, h3, h4⟩ := fl
  obtain ⟨C1, T1, N1, ty0, g1, g2, g3, g4, g5⟩ := fp
  cases h1.symm.trans g1
  intro H locs ls hP hD hS hl
  refine va_put C.1 C.2.1 C.2.2.1 h3 ty0 g2 g3 C.2.2.2.1 C.2.2.2.2.1 hP (A := kA K) (by rw [hBA]; exact hD) hS q0 he h1 k h2 (C.2.2.1 _ h4) (fun _ h9 => h9) g5 g4 hn hfit hk hd (fun H1 locs1 hP1 hD1 hS1 => ?_)
  exact kk H1 locs1 ls hP1 (by rw [← hBA]; exact hD1) hS1 hl
theorem V_iald (C : KX K cc own rm g) {a n : Nat} {f : Nat → Int32} {i : Int32} (q0 pc' : Nat) (hd : decode cc pc = .ok (.iaload, 1)) (hp : pc + 1 = pc') (ha : ws[q0]? = some (a, aI g n f)) (hin : inb i n = true) (kk : V K cells slots ws lv (.int (f (cl i)) :: rest) pc') : V K cells slots ws lv (.int i :: .ref a :: rest) pc := by
  subst hp
  intro H locs ls hP hD hS hl
  exact va_iald C.1 C.2.1 C.2.2.2.2.1 hP q0 0 ha rfl (inb_t hin) hd (kk H locs ls hP hD hS hl)
theorem V_cald (C : KX K cc own rm g) {a n : Nat} {f : Nat → Int32} {i : Int32} (q0 pc' : Nat) (hd : decode cc pc = .ok (.caload, 1)) (hp : pc + 1 = pc') (ha : ws[q0]? = some (a, aC g n f)) (hin : inb i n = true) (kk : V K cells slots ws lv (.int (f (cl i)) :: rest) pc') : V K cells slots ws lv (.int i :: .ref a :: rest) pc := by
  subst hp
  intro H locs ls hP hD hS hl
  exact va_cald C.1 C.2.1 C.2.2.2.2.1 hP q0 1 ha rfl (inb_t hin) hd (kk H locs ls hP hD hS hl)
theorem V_bald (C : KX K cc own rm g) {a n : Nat} {f : Nat → Int32} {i : Int32} (q0 pc' : Nat) (hd : decode cc pc = .ok (.baload, 1)) (hp : pc + 1 = pc') (ha : ws[q0]? = some (a, aB g n f)) (hin : inb i n = true) (kk : V K cells slots ws lv (.int (f (cl i)) :: rest) pc') : V K cells slots ws lv (.int i :: .ref a :: rest) pc := by
  subst hp
  intro H locs ls hP hD hS hl
  exact va_bald C.1 C.2.1 C.2.2.2.2.1 hP q0 2 ha rfl (inb_t hin) hd (kk H locs ls hP hD hS hl)
theorem V_iast (C : KX K cc own rm g) (hBA : kA K = kB K) {a n : Nat} {f : Nat → Int32} {i x : Int32} (q0 pc' : Nat) (ws' : va_W) (hd : decode cc pc = .ok (.iastore, 1)) (hp : pc + 1 = pc') (ha : ws[q0]? = some (a, aI g n f)) (hin : inb i n = true) (hw : ws.set q0 (a, aI g n (upd f (cl i) x)) = ws') (kk : V K cells slots ws' lv rest pc') : V K cells slots ws lv (.int x :: .int i :: .ref a :: rest) pc := by
  subst hp
  subst hw
  intro H locs ls hP hD hS hl
  refine va_iast C.1 C.2.1 C.2.2.2.2.1 hP (A := kA K) (by rw [hBA]; exact hD) hS q0 0 ha rfl (inb_t hin) hd (fun H1 locs1 hP1 hD1 hS1 => ?_)
  exact kk H1 locs1 ls hP1 (by rw [← hBA]; exact hD1) hS1 hl
theorem V_cast (C : KX K cc own rm g) (hBA : kA K = kB K) {a n : Nat} {f : Nat → Int32} {i x : Int32} (q0 pc' : Nat) (ws' : va_W) (hd : decode cc pc = .ok (.castore, 1)) (hp : pc + 1 = pc') (ha : ws[q0]? = some (a, aC g n f)) (hin : inb i n = true) (hw : ws.set q0 (a, aC g n (upd f (cl i) (vp_nar .char x))) = ws') (kk : V K cells slots ws' lv rest pc') : V K cells slots ws lv (.int x :: .int i :: .ref a :: rest) pc := by
  subst hp
  subst hw
  intro H locs ls hP hD hS hl
  refine va_cast C.1 C.2.1 C.2.2.2.2.1 hP (A := kA K) (by rw [hBA]; exact hD) hS q0 1 ha rfl (inb_t hin) hd (fun H1 locs1 hP1 hD1 hS1 => ?_)
  exact kk H1 locs1 ls hP1 (by rw [← hBA]; exact hD1) hS1 hl
end VFIELDS
/-! worlds: parts of them -/
theorem va_P.lf {D : va_G} {cl : List vw_C} {a b : va_W} {H : Heap} (h : va_P D cl (a ++ b) H) : va_P D cl a H := fun k q hk => h k q (by rw [List.getElem?_append_left (List.getElem?_eq_some_iff.mp hk).1]; exact hk)
theorem va_P.rt {D : va_G} {cl : List vw_C} {a b : va_W} {H : Heap} (h : va_P D cl (a ++ b) H) : va_P D cl b H := fun k q hk => h (a.length + k) q (by rw [List.getElem?_append_right (by omega)]; simpa using hk)
theorem va_D.lf {A : Nat → Prop} {a b : va_W} (h : va_D A (a ++ b)) : va_D A a :=
  ⟨fun i j p q hi hj e => h.1 i j p q (by rw [List.getElem?_append_left (List.getElem?_eq_some_iff.mp hi).1]; exact hi) (by rw [List.getElem?_append_left (List.getElem?_eq_some_iff.mp hj).1]; exact hj) e, fun k q hk => h.2 k q (by rw [List.getElem?_append_left (List.getElem?_eq_some_iff.mp hk).1]; exact hk)⟩
theorem va_D.rt {A : Nat → Prop} {a b : va_W} (h : va_D A (a ++ b)) : va_D A b :=
  ⟨fun i j p q hi hj e => by
    have := h.1 (a.length + i) (a.length + j) p q (by rw [List.getElem?_append_right (by omega)]; simpa using hi) (by rw [List.getElem?_append_right (by omega)]; simpa using hj) e
    omega, fun k q hk => h.2 (a.length + k) q (by rw [List.getElem?_append_right (by omega)]; simpa using hk)⟩
theorem va_D.ap {A : Nat → Prop} {a b : va_W} (h : va_D A (a ++ b)) {i j : Nat} {p q : Nat × va_E} (hi : a[i]? = some p) (hj : b[j]? = some q) : p.1 ≠ q.1 := by
  intro e
  have h1 := (List.getElem?_eq_some_iff.mp hi).1
  have := h.1 i (a.length + j) p q (by rw [List.getElem?_append_left h1]; exact hi) (by rw [List.getElem?_append_right (by omega)]; simpa using hj) e
  omega
theorem va_D.same {A : Nat → Prop} {a b : va_W} (h : va_D A a) (e : b.map Prod.fst = a.map Prod.fst) : va_D A b := by
  have key : ∀ (k : Nat) (q : Nat × va_E), b[k]? = some q → ∃ q0, a[k]? = some q0 ∧ q0.1 = q.1 := by
    intro k q hk
    have h1 : (b.map Prod.fst)[k]? = some q.1 := by rw [List.getElem?_map, hk]; rfl
    rw [e, List.getElem?_map] at h1
    cases hq : a[k]? with
    | none => rw [hq] at h1; cases h1
    | some q0 => rw [hq] at h1; exact ⟨q0, rfl, Option.some.inj h1⟩
  refine ⟨fun i j p q hi hj e2 => ?_, fun k q hk => ?_⟩
  · obtain ⟨p0, h1, h2⟩ := key i p hi
    obtain ⟨q0, h3, h4⟩ := key j q hj
    exact h.1 i j p0 q0 h1 h3 (by rw [h2, h4]; exact e2)
  · obtain ⟨q0, h1, h2⟩ := key k q hk
    rw [← h2]; exact h.2 k q0 h1
/-- a world in three parts, the middle one changed by a callee: what is beside it stays -/
theorem va_mid {D : va_G} {cl : List vw_C} {B : Nat → Prop} {pre w0 w1 post : va_W} {H H1 : Heap} (hP : va_P D cl (pre ++ (w0 ++ post)) H) (hD : va_D B (pre ++ (w0 ++ post))) (e : w1.map Prod.fst = w0.map Prod.fst) (hP1 : va_P D cl w1 H1) (hk : ∀ q : Nat, q < H.size → ¬ va_A w0 H.size q → H1[q]? = H[q]?) : va_P D cl (pre ++ (w1 ++ post)) H1 ∧ va_D B (pre ++ (w1 ++ post)) := by
  have hN : ∀ {x : va_W} {k : Nat} {q : Nat × va_E}, va_P D cl x H → x[k]? = some q → (∀ (j : Nat) (p : Nat × va_E), w0[j]? = some p → p.1 ≠ q.1) → H1[q.1]? = H[q.1]? := by
    intro x k q hx hq hne
    have hlt := (hx k q hq).lt
    refine hk q.1 hlt ?_
    rintro (⟨j, e, hj⟩ | hge)
    · exact hne j _ hj rfl
    · omega
  refine ⟨va_P.app ?_ (va_P.app hP1 ?_), hD.same (by simp [e])⟩
  · exact hP.lf.kept fun k q hq => hN hP.lf hq fun j p hj => fun z => hD.ap hq (show (w0 ++ post)[j]? = some p by rw [List.getElem?_append_left (List.getElem?_eq_some_iff.mp hj).1]; exact hj) z.symm
  · exact hP.rt.rt.kept fun k q hq => hN hP.rt.rt hq fun j p hj => hD.rt.ap hj hq
/-! contracts -/
def QP (rv : Option Value) : Array Value → State → Outcome → State → Prop := fun _ st oc t => oc = .returned rv ∧ va_F (fun q => st.heap.size ≤ q) st t
def QS (D : va_G) (rv : Option Value) (w0 w1 : va_W) (sz : Nat) : Array Value → State → Outcome → State → Prop := fun _ st oc t => oc = .returned rv ∧ va_P D cl0 w1 t.heap ∧ va_F (va_A w0 sz) st t
/-- y returns rv; nothing that was there before is written -/
def CtP (l : Launch) (D : va_G) (g : G0) (y : MethodName) (b : ByteArray) (n : Nat) (ret : Option FieldType) (rm : Room) (w : va_W) (av : List Value) (rv : Option Value) : Prop :=
  Met l y (wM y b n ret) rm (va_Pc av (fun U => va_P D cl0 w U.heap ∧ va_K D cl0 (TY g) U ∧ va_D (fun _ => True) w)) (QP rv) 0 0 (fun _ => False)
/-- y returns rv, and the world w0 becomes w1 -/
def CtS (l : Launch) (D : va_G) (g : G0) (y : MethodName) (b : ByteArray) (n : Nat) (ret : Option FieldType) (rm : Room) (w0 : va_W) (av : List Value) (rv : Option Value) (w1 : va_W) : Prop :=
  ∀ sz : Nat, Met l y (wM y b n ret) rm (va_Pc av (fun U => U.heap.size = sz ∧ va_P D cl0 w0 U.heap ∧ va_K D cl0 (TY g) U ∧ va_D (fun _ => True) w0)) (QS D rv w0 w1 sz) 0 0 (va_A w0 sz)
/-- the walk of a body that writes nothing -/
theorem CtP.of {l : Launch} {D : va_G} {g : G0} {y : MethodName} {b : ByteArray} {n : Nat} {ret : Option FieldType} {rm : Room} {w : va_W} {av : List Value} {rv : Option Value} (hy : plainName y.cls = true) (hrc : rm.cells = 0) (hrs : rm.slots = 0) (hav : (lg_sl av).length ≤ n)
    (body : ∀ K : KT, KX K b y.cls rm g → l = kl K → D = kD K → kn K = n →
      (∀ (lv : List (Nat × Value)) (pc : Nat) (v : Int32) (ty : FieldType), ret = some ty → narrow ty (.int v) = .int v → rv = some (.int v) → decode b pc = .ok (.ireturn, 1) → V K 0 0 w lv [.int v] pc) →
      V K 0 0 w (lv_args 0 av) [] 0) : CtP l D g y b n ret rm w av rv := by
  refine Met.ofW (cc := b) (maxL := n) (ret := ret) hy rfl ?_
  intro p e s m args below meth c s₁ BL hml hv
  obtain ⟨rfl, hP, hK, hD⟩ := hv
  have hts : ∀ w ∈ wU, w.before av.toArray s = true := fun w h => atoms_spec (ws := wM y b n ret) BL.pre w (List.mem_cons_of_mem _ h)
  have hown : s.vm.findClass y.cls = some m.cls := findClass_of_methodNamed BL.named
  have hlocks := BL.notSynchronized
  rw [lg_entry_eq]
  have hl := lv_entry av (n := n) hav
  refine body (p, l, e, rm, s, m, av.toArray, below, meth, c, n, D, (fun q => s.heap.size ≤ q), (fun _ => True), MQ below (QP rv) av.toArray s 0 0 (fun _ => False)) ⟨BL.exec, BL.bytes, hts, hown, hK, hml, rfl, fun q h => h, fun q _ => Or.inr fun _ => trivial⟩ rfl rfl rfl ?_ s.heap [] _ hP hD va_S.rf hl
  intro lv pc v ty hret hn hrv hd H locs ls hP hD hS hl
  show W p l e rm s m av.toArray below meth c H locs 0 0 (MQ below (QP rv) av.toArray s 0 0 (fun _ => False)) (F0 m pc ls [.int v])
  refine va_forget (fun q hq => hS.2.2 q hq) ?_
  exact W.zret BL.exec BL.bytes (by rw [BL.returns]; exact hret) hn (fun t ht hW => ⟨by rw [hrv], hS.F ht⟩) (fun q hq => absurd hq List.not_mem_nil) hd
/-- the walk of a body that writes -/
theorem CtS.of {l : Launch} {D : va_G} {g : G0} {y : MethodName} {b : ByteArray} {n : Nat} {ret : Option FieldType} {rm : Room} {w0 w1 : va_W} {av : List Value} {rv : Option Value} (hy : plainName y.cls = true) (hav : (lg_sl av).length ≤ n)
    (body : ∀ K : KT, KX K b y.cls rm g → kA K = kB K → l = kl K → D = kD K → kn K = n →
      (∀ (lv : List (Nat × Value)) (pc : Nat) (v : Int32) (ty : FieldType), ret = some ty → narrow ty (.int v) = .int v → rv = some (.int v) → decode b pc = .ok (.ireturn, 1) → V K 0 0 w1 lv [.int v] pc) →
      (∀ (lv : List (Nat × Value)) (pc : Nat), ret = none → rv = none → decode b pc = .ok (.return_, 1) → V K 0 0 w1 lv [] pc) →
      V K 0 0 w0 (lv_args 0 av) [] 0) : CtS l D g y b n ret rm w0 av rv w1 := by
  intro sz
  refine Met.ofW (cc := b) (maxL := n) (ret := ret) hy rfl ?_
  intro p e s m args below meth c s₁ BL hml hv
  obtain ⟨rfl, hsz, hP, hK, hD⟩ := hv
  subst hsz
  have hts : ∀ w ∈ wU, w.before av.toArray s = true := fun w h => atoms_spec (ws := wM y b n ret) BL.pre w (List.mem_cons_of_mem _ h)
  have hown : s.vm.findClass y.cls = some m.cls := findClass_of_methodNamed BL.named
  have hlocks := BL.notSynchronized
  rw [lg_entry_eq]
  have hl := lv_entry av (n := n) hav
  refine body (p, l, e, rm, s, m, av.toArray, below, meth, c, n, D, va_A w0 s.heap.size, va_A w0 s.heap.size, MQ below (QS D rv w0 w1 s.heap.size) av.toArray s 0 0 (va_A w0 s.heap.size)) ⟨BL.exec, BL.bytes, hts, hown, hK, hml, rfl, fun q h => Or.inr h, fun q h => Or.inl h⟩ rfl rfl rfl rfl ?_ ?_ s.heap [] _ hP hD.self va_S.rf hl
  · intro lv pc v ty hret hn hrv hd H locs ls hP hD hS hl
    show W p l e rm s m av.toArray below meth c H locs 0 0 (MQ below (QS D rv w0 w1 s.heap.size) av.toArray s 0 0 (va_A w0 s.heap.size)) (F0 m pc ls [.int v])
    exact W.zret BL.exec BL.bytes (by rw [BL.returns]; exact hret) hn (fun t ht hW => ⟨by rw [hrv], by rw [ht]; exact hP, hS.F ht⟩) hS.2.2 hd
  · intro lv pc hret hrv hd H locs ls hP hD hS hl
    show W p l e rm s m av.toArray below meth c H locs 0 0 (MQ below (QS D rv w0 w1 s.heap.size) av.toArray s 0 0 (va_A w0 s.heap.size)) (F0 m pc ls [])
    exact W.vret BL.exec BL.bytes (by rw [BL.returns]; exact hret) (fun t ht hW => ⟨by rw [hrv], by rw [ht]; exact hP, hS.F ht⟩) hS.2.2 hd

