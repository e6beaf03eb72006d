/-! ===== calls of a superclass's methods, of nest mates' constructors; what is made ===== -/
/-- a private method is selected, whatever the receiver's class -/
theorem sel_priv {C : String} {y : MethodName} {s : State} {args : Array Value} {n : Nat} (hy : y.cls ≠ "java/lang/invoke/MethodHandle" ∧ y.cls ≠ "java/lang/invoke/VarHandle") (hins : (Cond.instantiable C n).before args s = true) (hsame : (Cond.sameMethod y.cls y.cls y.name y.desc).before args s = true) (hpriv : (Cond.privateMethod y).before args s = true) (hinst : (Cond.instanceMethod y).before args s = true) : (Cond.selects C y y).before args s = true := by
  obtain ⟨c, k, hc, hk, -, hniab, -, -⟩ := Cond.instantiable_spec hins
  obtain ⟨mk, methM, hnamed, hmethM, -, -⟩ := Cond.instanceMethod_spec hinst
  have hfound : s.methodFound? y.cls y.name y.desc = some mk := State.methodFound?_of_named hnamed hy
  have hcls : s.vm.findClass y.cls = some mk.cls := findClass_of_methodNamed hnamed
  have hsel : selectMethod {} s.vm c mk = .method mk := selectMethod_private hmethM (Cond.privateMethod_at hpriv mk methM hnamed hmethM)
  have hn2 : s.methodNamed? ⟨y.cls, y.name, y.desc⟩ = some mk := hnamed
  simp only [Cond.before, Cond.holds, Cond.value, hcls, hfound, hn2] at hsame
  simp only [Cond.before, Cond.holds, Cond.value, hc, hfound, hnamed, hsel]
  simp at hsame ⊢
  exact hsame
section NEWU
variable {K : KT} {cc : ByteArray} {own : String} {rm : Room} {g : G0} {cells slots : Nat} {ws ws' : va_W} {lv lv' : List (Nat × Value)} {st rest : List Value} {pc : Nat} {P : Option Value → va_W → Prop} {mc ms : Nat}
variable {f2 x2 n na idx ci : Nat} {y : MethodName} {b : ByteArray} {ret : Option FieldType} {as : List Value}
/-- a method that a superclass has: its words -/
def CLu (own : String) (idx ci : Nat) (y : MethodName) (b : ByteArray) (n : Nat) (ret : Option FieldType) (na : Nat) : Prop :=
  CLz own idx y b n ret na ∧ Cond.sameMethod y.cls y.cls y.name y.desc ∈ wU ∧ Cond.instanceMethod y ∈ wU ∧ ∃ (C : String) (T : u_T) (N : Nat), cl0[ci]? = some (C, T, N) ∧ (Cond.selects C y y ∈ wU ∨ Cond.selects C y y ∈ jsW)
theorem V_callNu (C : KX K cc own rm g) (hBA : kA K = kB K) (hE : SBq (kD K) (kA K) (ks K) (ks K).heap) (ml : CLu own idx ci y b n ret na) {w0 pre post : va_W} {b0 : Nat} {fs : List Value} (ct : CtN (kl K) (kD K) g y b n ret (rmN f2 x2 mc ms) w0 (.ref b0 :: as) P mc ms) (q0 : Nat) (hd : decode cc pc = .ok (.invokevirtual idx, 3)) (hR : f2 + 1 ≤ rm.frames ∧ 8 + (n + 11) + x2 ≤ rm.locals) (hn : as.length = na) (hw : ws = pre ++ (w0 ++ post)) (hq0 : ws[q0]? = some (b0, .inr (ci, fs))) (hst : st = as.reverse ++ .ref b0 :: rest) (hrm : (rest.map fun v => v.category).sum ≤ 8) (hroom : cells + mc ≤ rm.cells ∧ slots + ms ≤ rm.slots)
    (kk : ∀ (rv : Option Value) (w1 : va_W), P rv w1 → V K (cells + mc) (slots + ms) (pre ++ (w1 ++ post)) lv (rv.toList ++ rest) (pc + 3)) : V K cells slots ws lv st pc := by
  obtain ⟨m1, m2, m3, C1, T1, N1, hcl, hsel⟩ := ml
  obtain ⟨z1, z2, z3, z4⟩ := id m1
  intro H locs ls hP hD hS hl
  have hR2 : kR K = rm := C.2.2.2.2.2.2.1
  have hrecv := va_recv C.2.2.2.2.1 hP hcl hq0
  rw [hw] at hP hD
  have cb : CallB (kR K) (ks K) (ka K) own idx y b n ret (wM y b n ret) (rmN f2 x2 mc ms) mc ms na := m1.cb C.2.2.1 (by rw [hR2]; exact hR)
  obtain ⟨e1, e2, e3, e4, e5, e6, e7, e8, e9, e10, e11⟩ := cb
  have hs2 : (Cond.selects C1 y y).before (ka K) (ks K) = true := by
    rcases hsel with h | h
    · exact C.2.2.1 _ h
    · exact va_Nw.use (jsW_ok _ h).1 (hE.2.1.1 _ h)
  have cu : va_CU (kR K) (ks K) (ka K) own C1 y.cls idx y y b n ret (wM y b n ret) (rmN f2 x2 mc ms) mc ms na := ⟨⟨e1, e2, e3, e4, e5, e6⟩, e7, e8, ⟨z1.1, z1.2.1⟩, e10, C.2.2.1 _ z2, C.2.2.1 _ m2, va_Decl.of (C.2.2.1 _ m3) e7, hs2, C.2.2.1 _ m3⟩
  exact V_backN C hBA hP hD hS hl (va_runU (As := as) (rest := rest) ⟨C.1, C.2.1, C.2.2.2.2.2.1, C.2.2.2.1, C.2.2.1⟩ (ct H.size) cu ⟨fun a U gg mk q => pre_blind (l := kl K) a U gg mk q, hrecv, fun U hU hW => pre_ok C hBA hE hP hD hS U hU hW⟩ rfl hn hl.1 hst (lv_room hrm) hd (by rw [hR2]; exact hroom)) kk
/-- super.y(..): its words -/
def CLw (own : String) (idx ci : Nat) (y : MethodName) (b : ByteArray) (n : Nat) (ret : Option FieldType) (na : Nat) : Prop :=
  CLz own idx y b n ret na ∧ Cond.sameMethod y.cls y.cls y.name y.desc ∈ wU ∧ Cond.superclass own y.cls ∈ wU ∧ Cond.instanceMethod y ∈ wU ∧ y.name ≠ "<init>" ∧ ∃ (T : u_T) (N : Nat), cl0[ci]? = some (own, T, N)
theorem V_callNw (C : KX K cc own rm g) (hBA : kA K = kB K) (hE : SBq (kD K) (kA K) (ks K) (ks K).heap) (ml : CLw own idx ci y b n ret na) {w0 pre post : va_W} {b0 : Nat} {fs : List Value} (ct : CtN (kl K) (kD K) g y b n ret (rmN f2 x2 mc ms) w0 (.ref b0 :: as) P mc ms) (q0 : Nat) (hd : decode cc pc = .ok (.invokespecial idx, 3)) (hR : f2 + 1 ≤ rm.frames ∧ 8 + (n + 11) + x2 ≤ rm.locals) (hn : as.length = na) (hw : ws = pre ++ (w0 ++ post)) (hq0 : ws[q0]? = some (b0, .inr (ci, fs))) (hst : st = as.reverse ++ .ref b0 :: rest) (hrm : (rest.map fun v => v.category).sum ≤ 8) (hroom : cells + mc ≤ rm.cells ∧ slots + ms ≤ rm.slots)
    (kk : ∀ (rv : Option Value) (w1 : va_W), P rv w1 → V K (cells + mc) (slots + ms) (pre ++ (w1 ++ post)) lv (rv.toList ++ rest) (pc + 3)) : V K cells slots ws lv st pc := by
  obtain ⟨m1, m2, m3, m4, m5, T1, N1, hcl⟩ := ml
  obtain ⟨z1, z2, z3, z4⟩ := id m1
  intro H locs ls hP hD hS hl
  have hR2 : kR K = rm := C.2.2.2.2.2.2.1
  have hrecv := va_recv C.2.2.2.2.1 hP hcl hq0
  rw [hw] at hP hD
  have cb : CallB (kR K) (ks K) (ka K) own idx y b n ret (wM y b n ret) (rmN f2 x2 mc ms) mc ms na := m1.cb C.2.2.1 (by rw [hR2]; exact hR)
  obtain ⟨e1, e2, e3, e4, e5, e6, e7, e8, e9, e10, e11⟩ := cb
  exact V_backN C hBA hP hD hS hl (va_runSU (As := as) (rest := rest) (C.2.2.2.2.1.1 ci _ hcl).2 ⟨C.1, C.2.1, C.2.2.2.2.2.1, C.2.2.2.1, C.2.2.1⟩ (ct H.size) ⟨⟨e1, e2, e3, e4, e5, e6⟩, C.2.2.1 _ z2, C.2.2.1 _ m2, C.2.2.1 _ m3, C.2.2.1 _ m4, e8, e7, m5, e10⟩ ⟨fun a U gg mk q => pre_blind (l := kl K) a U gg mk q, hrecv, fun U hU hW => pre_ok C hBA hE hP hD hS U hU hW⟩ rfl hn hl.1 hst (lv_room hrm) hd (by rw [hR2]; exact hroom)) kk
/-- a nest mate's constructor -/
def CLn (own : String) (idx : Nat) (y : MethodName) (host : String) (b : ByteArray) (n : Nat) (na : Nat) : Prop :=
  (y.cls ≠ "java/lang/invoke/MethodHandle" ∧ y.cls ≠ "java/lang/invoke/VarHandle" ∧ (parseMethodDescriptor y.desc).map (fun d => d.parameters.length) = some na) ∧ Cond.methodLinkNest own idx y host ∈ nwW ∧ Cond.initialized y.cls ∈ wU ∧ Cond.code y b n none ∈ wU ∧ Cond.instanceMethod y ∈ wU ∧ y.name = "<init>"
theorem V_callNn (C : KX K cc own rm g) (hBA : kA K = kB K) (hE : SBq (kD K) (kA K) (ks K) (ks K).heap) {host : String} (ml : CLn own idx y host b n na) {w0 pre post : va_W} {b0 : Nat} (ct : CtN (kl K) (kD K) g y b n none (rmN f2 x2 mc ms) w0 (.ref b0 :: as) P mc ms) (hd : decode cc pc = .ok (.invokespecial idx, 3)) (hR : f2 + 1 ≤ rm.frames ∧ 8 + (n + 11) + x2 ≤ rm.locals) (hn : as.length = na) (hw : ws = pre ++ (w0 ++ post)) (hst : st = as.reverse ++ .ref b0 :: rest) (hrm : (rest.map fun v => v.category).sum ≤ 8) (hroom : cells + mc ≤ rm.cells ∧ slots + ms ≤ rm.slots)
    (kk : ∀ (rv : Option Value) (w1 : va_W), P rv w1 → V K (cells + mc) (slots + ms) (pre ++ (w1 ++ post)) lv (rv.toList ++ rest) (pc + 3)) : V K cells slots ws lv st pc := by
  obtain ⟨z1, z2, z3, z4, z5, z6⟩ := ml
  intro H locs ls hP hD hS hl
  have hR2 : kR K = rm := C.2.2.2.2.2.2.1
  rw [hw] at hP hD
  exact V_backN C hBA hP hD hS hl (va_runIN (As := as) (rest := rest) ⟨C.1, C.2.1, C.2.2.2.2.2.1, C.2.2.2.1, C.2.2.1⟩ (ct H.size) ⟨va_cnB na C.2.2.1 (gU (wM_in z4)) rfl rfl rfl (hE.2.2.1 _ z2) (C.2.2.1 _ z3) z1 (by rw [hR2]; exact hR), z6, C.2.2.1 _ z5⟩ ⟨fun a U gg mk q => pre_blind (l := kl K) a U gg mk q, fun U hU hW => pre_ok C hBA hE hP hD hS U hU hW⟩ rfl hn hl.1 hst (lv_room hrm) hd (by rw [hR2]; exact hroom)) kk
/-- new arrays -/
theorem V_newI (C : KX K cc own rm g) (hBA : kA K = kB K) {n : Int32} (N' pc' : Nat) (hA : Cond.arrayClass (.int) ∈ wU) (hn : ¬ n < 0) (hN : cl n = N') (hb : N' ≤ 2 ^ 20) (hcells : cells + 1 ≤ rm.cells) (hslots : slots + N' ≤ rm.slots) (hd : decode cc pc = .ok (.newarray .int, 2)) (hp : pc + 2 = pc') (kk : ∀ q : Nat, V K (cells + 1) (slots + N') (ws ++ [(q, aI g N' (fun _ => 0))]) lv (.ref q :: rest) pc') : V K cells slots ws lv (.int n :: rest) pc := by
  subst hp
  intro H locs ls hP hD hS hl
  have hR2 : kR K = rm := C.2.2.2.2.2.2.1
  refine va_newa C.1 C.2.1 (atype := .int) (ty := .int) (N' := N') (a0 := (N', .inl (fun _ => 0))) (C.2.2.1 _ hA) rfl C.2.2.2.2.1 hP (A := kA K) (by rw [hBA]; exact hD) hS C.2.2.2.2.2.2.2.1 (fun cA => rfl) hn hN (by show N' * 4 ≤ 536870912; omega) (by rw [hR2]; exact hcells) (by rw [hR2]; exact hslots) hd (fun q cA H1 hK1 hP1 hD1 hS1 => ?_)
  have e : cA = g.1 := by
    have h1 := (hK1.2 0 (g.1, .int) rfl).2
    have h2 := (hK1.2 6 (cA, .int) rfl).2
    exact Option.some.inj (h2.symm.trans h1)
  subst e
  exact kk q H1 locs ls hP1 (by rw [← hBA]; exact hD1) hS1 hl
theorem V_newC (C : KX K cc own rm g) (hBA : kA K = kB K) {n : Int32} (N' pc' : Nat) (hA : Cond.arrayClass (.char) ∈ wU) (hn : ¬ n < 0) (hN : cl n = N') (hb : N' ≤ 2 ^ 20) (hcells : cells + 1 ≤ rm.cells) (hslots : slots + N' ≤ rm.slots) (hd : decode cc pc = .ok (.newarray .char, 2)) (hp : pc + 2 = pc') (kk : ∀ q : Nat, V K (cells + 1) (slots + N') (ws ++ [(q, aC g N' (fun _ => 0))]) lv (.ref q :: rest) pc') : V K cells slots ws lv (.int n :: rest) pc := by
  subst hp
  intro H locs ls hP hD hS hl
  have hR2 : kR K = rm := C.2.2.2.2.2.2.1
  refine va_newa C.1 C.2.1 (atype := .char) (ty := .char) (N' := N') (a0 := (N', .inl (fun _ => 0))) (C.2.2.1 _ hA) rfl C.2.2.2.2.1 hP (A := kA K) (by rw [hBA]; exact hD) hS C.2.2.2.2.2.2.2.1 (fun cA => rfl) hn hN (by show N' * 2 ≤ 536870912; omega) (by rw [hR2]; exact hcells) (by rw [hR2]; exact hslots) hd (fun q cA H1 hK1 hP1 hD1 hS1 => ?_)
  have e : cA = g.2.1 := by
    have h1 := (hK1.2 1 (g.2.1, .char) rfl).2
    have h2 := (hK1.2 6 (cA, .char) rfl).2
    exact Option.some.inj (h2.symm.trans h1)
  subst e
  exact kk q H1 locs ls hP1 (by rw [← hBA]; exact hD1) hS1 hl
theorem V_newO (C : KX K cc own rm g) (hBA : kA K = kB K) {n : Int32} {index : Nat} (N' pc' : Nat) (hE : SBq (kD K) (kA K) (ks K) (ks K).heap) (hcl : Cond.classLink own index "BookmarkManager$Book" ∈ wU) (hn : ¬ n < 0) (hN : cl n = N') (hb : N' ≤ 2 ^ 20) (hcells : cells + 1 ≤ rm.cells) (hslots : slots + N' ≤ rm.slots) (hd : decode cc pc = .ok (.anewarray index, 3)) (hp : pc + 3 = pc') (kk : ∀ q : Nat, V K (cells + 1) (slots + N') (ws ++ [(q, aO g N' (fun _ => none))]) lv (.ref q :: rest) pc') : V K cells slots ws lv (.int n :: rest) pc := by
  subst hp
  intro H locs ls hP hD hS hl
  have hR2 : kR K = rm := C.2.2.2.2.2.2.1
  refine va_newq C.1 C.2.1 C.2.2.2.1 (C.2.2.1 _ hcl) hE.2.2.2.1 C.2.2.2.2.1 hP (A := kA K) (by rw [hBA]; exact hD) hS C.2.2.2.2.2.2.2.1 (N' := N') hn hN (by omega) (by rw [hR2]; exact hcells) (by rw [hR2]; exact hslots) hd (fun q cA H1 hK1 hP1 hD1 hS1 => ?_)
  have e : cA = g.2.2.2.2.2 := by
    obtain ⟨k1, c1, a1, a2, a3, a4⟩ := (hK1.2 5 (g.2.2.2.2.2, .object "BookmarkManager$Book") rfl).2
    obtain ⟨k2, c2, b1, b2, b3, b4⟩ := (hK1.2 6 (cA, .object "BookmarkManager$Book") rfl).2
    exact Option.some.inj (b4.symm.trans a4)
  subst e
  exact kk q H1 locs ls hP1 (by rw [← hBA]; exact hD1) hS1 hl
/-- a new object -/
def NW (own : String) (index ci : Nat) (fs : List Value) (N : Nat) : Prop := ∃ (C : String) (T : u_T) (ty : Nat → FieldType), cl0[ci]? = some (C, T, N) ∧ (∀ w ∈ u_ws C T N, w ∈ wU) ∧ (∀ k, k < N → parseFieldDescriptor (T k).2.2.1 = some (ty k)) ∧ Cond.classLink own index C ∈ wU ∧ Cond.instantiable C N ∈ wU ∧ Cond.initialized C ∈ wU ∧ ∀ j, j < N → defaultValue (ty j) = vp_V fs j
theorem V_newX (C : KX K cc own rm g) (hBA : kA K = kB K) {index N : Nat} {fs : List Value} (nw : NW own index ci fs N) (pc' : Nat) (hcells : cells + 1 ≤ rm.cells) (hslots : slots + N ≤ rm.slots) (hd : decode cc pc = .ok (.new index, 3)) (hp : pc + 3 = pc') (kk : ∀ q : Nat, V K (cells + 1) (slots + N) (ws ++ [(q, .inr (ci, fs))]) lv (.ref q :: rest) pc') : V K cells slots ws lv rest pc := by
  subst hp
  obtain ⟨C1, T, ty, h1, h2, h3, h4, h5, h6, h7⟩ := nw
  intro H locs ls hP hD hS hl
  have hR2 : kR K = rm := C.2.2.2.2.2.2.1
  refine va_new C.1 C.2.1 C.2.2.1 h2 ty h3 C.2.2.2.1 (C.2.2.1 _ h4) (C.2.2.1 _ h5) (C.2.2.1 _ h6) C.2.2.2.2.1 hP (A := kA K) (by rw [hBA]; exact hD) hS C.2.2.2.2.2.2.2.1 h1 h7 (by rw [hR2]; exact hcells) (by rw [hR2]; exact hslots) hd (fun q H1 hP1 hD1 hS1 => ?_)
  exact kk q H1 locs ls hP1 (by rw [← hBA]; exact hD1) hS1 hl
end NEWU
