/-! ===== static methods that catch ===== -/
def wH (y : MethodName) (b : ByteArray) (n : Nat) (r : Option FieldType) (hh : List (Nat × Nat × Nat × Nat)) : List Cond := .codeWith y b n r hh :: wU
abbrev PH (D : va_G) (g : G0) (w0 : va_W) (sz : Nat) (av : List Value) : Array Value → State → Prop := va_Pc av (fun U => (U.heap.size = sz ∧ va_P D cl0 w0 U.heap ∧ va_K D cl0 (TY g) U ∧ va_D (fun _ => True) w0 ∧ SBq D (va_A w0 sz) U U.heap) ∧ NcW U)
def CtH (l : Launch) (D : va_G) (g : G0) (y : MethodName) (b : ByteArray) (n : Nat) (ret : Option FieldType) (hh : List (Nat × Nat × Nat × Nat)) (rm : Room) (w0 : va_W) (av : List Value) (P : Option Value → va_W → Prop) (mc ms : Nat) : Prop :=
  ∀ sz : Nat, Met l y (wH y b n ret hh) rm (PH D g w0 sz av) (QN D P w0 sz) mc ms (va_A w0 sz)
theorem CtH.of {l : Launch} {D : va_G} {g : G0} {y : MethodName} {b : ByteArray} {n : Nat} {ret : Option FieldType} {hh : List (Nat × Nat × Nat × Nat)} {rm : Room} {w0 : va_W} {av : List Value} {P : Option Value → va_W → Prop} {mc ms : Nat} (hy : plainName y.cls = true) (hav : (lg_sl av).length ≤ n)
    (body : ∀ K : KT, KX K b y.cls rm g → KN K P w0 ret mc ms → (kc K).exceptionTable.toList = tableOf hh → NcW (ks K) → kA K = kB K → l = kl K → D = kD K → kn K = n → V K 0 0 w0 (lv_args 0 av) [] 0) : CtH l D g y b n ret hh rm w0 av P mc ms := by
  intro sz
  refine MetFree.of_bodyS (code := b) (maxLocals := n) (ret := ret) hy ?_ ?_
  · intro args s m h hn
    obtain ⟨m9, meth, c, hn9, h1, h2, h3, h4, -, h5, h6, -⟩ := Cond.codeWith_spec (atoms_spec (ws := wH y b n ret hh) h _ List.mem_cons_self)
    cases hn.symm.trans hn9
    exact ⟨meth, c, h1, h2, h3, h4, h5, h6⟩
  · intro p e s m args below meth c s₁ BL hml hv _
    have hh0 : s₁.heap = s.heap := by rw [BL.state]; rfl
    have htab := vx_table (x := y) BL (atoms_spec (ws := wH y b n ret hh) BL.pre _ List.mem_cons_self)
    obtain ⟨rfl, ⟨hsz, hP, hK, hD, hE⟩, hN⟩ := hv
    subst hsz
    have hts : ∀ w ∈ wU, w.before av.toArray s = true := fun w h => atoms_spec (ws := wH y b n ret hh) BL.pre w (List.mem_cons_of_mem _ h)
    have hown : s.vm.findClass y.cls = some m.cls := findClass_of_methodNamed BL.named
    have hl := lv_entry av (n := n) hav
    have h : W p l e (headSpec (wH y b n ret hh) rm).room s m av.toArray below meth c s.heap [] 0 0 (MQ below (QN D P w0 s.heap.size) av.toArray s mc ms (va_A w0 s.heap.size)) (entryFrame m av.toArray n) := by
      rw [lg_entry_eq]
      exact body (p, l, e, rm, s, m, av.toArray, below, meth, c, n, D, va_A w0 s.heap.size, va_A w0 s.heap.size, MQ below (QN D P w0 s.heap.size) av.toArray s mc ms (va_A w0 s.heap.size)) ⟨BL.exec, BL.bytes, hts, hown, hK, hml, rfl, fun q h => Or.inr h, fun q h => Or.inl h⟩ ⟨hE, rfl, rfl, rfl, BL.notSynchronized, BL.returns⟩ htab hN rfl rfl rfl rfl s.heap [] _ hP hD.self va_S.rf hl
    obtain ⟨t, a1, o, b1, b2, b3⟩ := h s₁ hh0 (Stand.of_body BL)
    exact ⟨t, o, a1, b1, b2, ⟨b3.1, b3.2⟩⟩
section HROWS
variable {K : KT} {cc : ByteArray} {own : String} {rm : Room} {g : G0} {cells slots : Nat} {ws ws' w0 : va_W} {lv lv' : List (Nat × Value)} {st rest : List Value} {pc : Nat} {P : Option Value → va_W → Prop} {mc ms : Nat}
variable {f2 x2 n na idx ci : Nat} {y : MethodName} {b : ByteArray} {ret : Option FieldType} {hh : List (Nat × Nat × Nat × Nat)} {as : List Value}
def CLh (own : String) (idx : Nat) (y : MethodName) (b : ByteArray) (n : Nat) (ret : Option FieldType) (hh : List (Nat × Nat × Nat × Nat)) (na : Nat) : Prop :=
  (y.cls ≠ "java/lang/invoke/MethodHandle" ∧ y.cls ≠ "java/lang/invoke/VarHandle" ∧ (parseMethodDescriptor y.desc).map (fun d => d.parameters.length) = some na) ∧ Cond.methodLink own idx y ∈ wU ∧ Cond.static y ∈ wU ∧ Cond.initialized y.cls ∈ wU ∧ Cond.codeWith y b n ret hh ∈ wU
theorem V_callH (C : KX K cc own rm g) (hBA : kA K = kB K) (hE : SBq (kD K) (kA K) (ks K) (ks K).heap) (hN : NcW (ks K)) (ml : CLh own idx y b n ret hh na) {w0 pre post : va_W} (ct : CtH (kl K) (kD K) g y b n ret hh (rmN f2 x2 mc ms) w0 as P mc ms) (hd : decode cc pc = .ok (.invokestatic idx, 3)) (hR : f2 + 1 ≤ rm.frames ∧ 8 + (n + 11) + x2 ≤ rm.locals) (hn : as.length = na) (hw : ws = pre ++ (w0 ++ post)) (hst : st = as.reverse ++ rest) (hrm : (rest.map fun v => v.category).sum ≤ 8) (hroom : cells + mc ≤ rm.cells ∧ slots + ms ≤ rm.slots)
    (kk : ∀ (rv : Option Value) (w1 : va_W), P rv w1 → V K (cells + mc) (slots + ms) (pre ++ (w1 ++ post)) lv (rv.toList ++ rest) (pc + 3)) : V K cells slots ws lv st pc := by
  obtain ⟨z1, z2, z3, z4, z5⟩ := ml
  intro H locs ls hP hD hS hl
  have hR2 : kR K = rm := C.2.2.2.2.2.2.1
  rw [hw] at hP hD
  have hG : ∀ w ∈ va_wsS own idx y (wH y b n ret hh), w ∈ wU := by
    intro w hw
    rcases List.mem_append.mp hw with hw | hw
    · rcases List.mem_cons.mp hw with rfl | hw
      · exact z2
      rcases List.mem_cons.mp hw with rfl | hw
      · exact z3
      rcases List.mem_cons.mp hw with rfl | hw
      · exact z4
      · exact absurd hw List.not_mem_nil
    · rcases List.mem_cons.mp hw with rfl | hw
      · exact z5
      · exact hw
  refine V_backN C hBA hP hD hS hl (vx_runSW (hh := hh) (As := as) (rest := rest) ⟨C.1, C.2.1, C.2.2.2.2.2.1, C.2.2.2.1, C.2.2.1⟩ (ct H.size) (vx_cwSW na C.2.2.1 (gU hG) rfl rfl rfl z1 (by rw [hR2]; exact hR)) ⟨fun a U gg mk q => ?_, fun U hU hW => ?_⟩ rfl hn hl.1 hst (lv_room hrm) hd (by rw [hR2]; exact hroom)) kk
  · obtain ⟨q0, q1, q2⟩ := q
    have r := pre_blind (l := kl K) a U gg mk ⟨q0, q1⟩
    exact ⟨r.1, r.2, fun z hz => (q2 z hz).moved (u := U) (U := U.calling gg mk a) (Vm.Alike.refl U.vm)⟩
  · have r := pre_ok (av := as) C hBA hE hP hD hS U hU hW
    exact ⟨r.1, r.2, hN.warm hW⟩
/-- E is caught here -/
theorem VX_catch (C : KX K cc own rm g) (htab : (kc K).exceptionTable.toList = tableOf hh) (hN : NcW (ks K)) (hnw : ∀ w ∈ nwW, va_Nw w (ks K)) {E nm : String} (pre : List (Nat × Nat × Nat × Nat)) (x : Nat × Nat × Nat × Nat) (suf : List (Nat × Nat × Nat × Nat)) (hsp : hh = pre ++ x :: suf) (hpass : ∀ z ∈ pre, z.2.2.2 ≠ 0 ∧ ∃ n9 : String, Cond.classLink own z.2.2.2 n9 ∈ wU ∧ (E, n9) ∈ ncL) (hx : x.1 ≤ pc ∧ pc < x.2.1) (h0 : x.2.2.2 ≠ 0) (hlink : Cond.classLink own x.2.2.2 nm ∈ wU) (hcast : Cond.castable E nm ∈ nwW) (kk : ∀ q : Nat, V K cells slots ws lv [.ref q] x.2.2.1) : VX K cells slots ws lv E pc := by
  intro H locs ls rest ce q hP hD hS hl hq hv hcl
  refine vx_catch (own := own) (name := nm) C.2.2.2.1 (tableOf pre) ⟨x.1, x.2.1, x.2.2.1, x.2.2.2⟩ (tableOf suf) (by rw [htab, hsp]; exact List.map_append) (fun z hz => ?_) ?_ h0 (C.2.2.1 _ hlink) (va_Nw.use rfl (hnw _ hcast)) hq hv hcl (kk q H locs ls hP hD hS hl)
  · obtain ⟨z0, hz0, rfl⟩ := List.mem_map.mp hz
    obtain ⟨h1, n9, h2, h3⟩ := hpass z0 hz0
    exact Or.inr ⟨h1, n9, C.2.2.1 _ h2, hN _ h3⟩
  · show (decide (x.1 ≤ pc) && decide (pc < x.2.1)) = true
    rw [decide_eq_true hx.1, decide_eq_true hx.2]
    rfl
/-- a call of what returns or throws, and knows what allocation needs -/
theorem V_callZ (C : KX K cc own rm g) (hBA : kA K = kB K) (hE : SBq (kD K) (kA K) (ks K) (ks K).heap) {Rc : RX9} {ret2 : Option FieldType} (ml : CLv own idx ci y b n ret2 na) {wc pre post : va_W} {b0 : Nat} {fs : List Value} (ct : CtZ (kl K) (kD K) g y b n ret2 (rmX f2 x2 Rc) wc (.ref b0 :: as) Rc) (q0 : Nat) (hd : decode cc pc = .ok (.invokevirtual idx, 3)) (hR : f2 + 1 ≤ rm.frames ∧ 8 + (n + 11) + x2 ≤ rm.locals) (hn : as.length = na) (hw : ws = pre ++ (wc ++ post)) (hq0 : ws[q0]? = some (b0, .inr (ci, fs))) (hst : st = as.reverse ++ .ref b0 :: rest) (hrm : (rest.map fun v => v.category).sum ≤ 8) (hroom : cells + mcR Rc ≤ rm.cells ∧ slots + msR Rc ≤ rm.slots)
    (kk : ∀ (rv : Option Value) (w1 : va_W), Rc = .inl (rv, w1) → w1.map Prod.fst = wc.map Prod.fst ∧ V K (cells + mcR Rc) (slots + msR Rc) (pre ++ (w1 ++ post)) lv (rv.toList ++ rest) (pc + 3))
    (kx : ∀ (E : String) (w1 : va_W), Rc = .inr (E, w1) → w1.map Prod.fst = wc.map Prod.fst ∧ VX K (cells + mcR Rc) (slots + msR Rc) (pre ++ (w1 ++ post)) lv E pc) : V K cells slots ws lv st pc := by
  obtain ⟨h0, hG, T0, N0, hcl⟩ := ml
  intro H locs ls hP hD hS hl
  have hR2 : kR K = rm := C.2.2.2.2.2.2.1
  have hrecv := va_recv C.2.2.2.2.1 hP hcl hq0
  rw [hw] at hP hD
  have hin : ∀ q, va_A wc H.size q → kA K q := by
    rintro q (⟨k, e, h⟩ | h)
    · rw [hBA]
      exact hD.rt.lf.2 k _ h
    · exact C.2.2.2.2.2.2.2.1 q (Nat.le_trans hS.1 h)
  have hr := vx_runV (p := kp K) (l := kl K) (e := ke K) (R := kR K) (s := ks K) (m := km K) (args := ka K) (below := kb K) (meth := kM K) (c := kc K) (H := H) (As := as) (rest := rest) (cells := cells) (slots := slots) (locs := locs) (g := F0 (km K) pc ls st) ⟨C.1, C.2.1, C.2.2.2.2.2.1, C.2.2.2.1, C.2.2.1⟩ (ct H.size) (cwV na C.2.2.1 (gU hG) rfl rfl rfl ⟨rfl, h0⟩ (by rw [hR2]; exact hR)) ⟨fun a U gg mk q => pre_blind (l := kl K) a U gg mk q, hrecv, fun U hU hW => pre_ok C hBA hE hP hD hS U hU hW⟩ rfl hn hl.1 hst (lv_room hrm) hd (by rw [hR2]; exact hroom)
  have hSt : ∀ (t : State) (H1 : Heap) (L : List Loc), t.heap = H1 → H.size ≤ H1.size → (∀ q : Nat, q < H.size → ¬ va_A wc H.size q → H1[q]? = H[q]?) → (∀ z ∈ L, va_A wc H.size z.base) → va_S (kA K) (ks K).heap H1 (locs ++ L) := fun t H1 L _ hz hk hL =>
    ⟨Nat.le_trans hS.1 hz, fun q h1 h2 => by rw [hk q (Nat.lt_of_lt_of_le h1 hS.1) (fun z => h2 (hin q z))]; exact hS.2.1 q h1 h2, fun q hq => by
      rcases List.mem_append.mp hq with h | h
      · exact hS.2.2 q h
      · exact hin _ (hL q h)⟩
  intro T hT X
  rcases hr T hT X with ⟨v, st₀, t, T', L, g1, X', hL, e1, e2, ⟨rv, w1, hRc, hv, hw1, hF⟩, stp⟩ | ⟨q, st₀, t, T', L, E, ce, g1, X', hL, e1, e2, ⟨w1, hRc, hw1, hF⟩, hce, hvm, hcE, stp⟩
  · cases hv
    obtain ⟨hz, hk⟩ := hF
    rw [g1] at hz hk
    obtain ⟨em, kk⟩ := kk v w1 hRc
    obtain ⟨hP2, hD2⟩ := va_mid hP hD em hw1 hk
    obtain ⟨t2, a1, b1⟩ := kk T'.heap (locs ++ L) ls (by rw [e1]; exact hP2) hD2 (by rw [e1]; exact hSt t _ L rfl hz hk hL) hl T' rfl X'
    exact ⟨t2, stp t2 a1, b1⟩
  · obtain ⟨hz, hk⟩ := hF
    rw [g1] at hz hk
    obtain ⟨em, kx⟩ := kx E w1 hRc
    obtain ⟨hP2, hD2⟩ := va_mid hP hD em hw1 hk
    obtain ⟨t2, a1, b1⟩ := kx T'.heap (locs ++ L) ls rest ce q (by rw [e1]; exact hP2) hD2 (by rw [e1]; exact hSt t _ L rfl hz hk hL) hl (by rw [e1]; exact hce) hvm hcE T' rfl X'
    exact ⟨t2, Steps.trans stp a1, b1⟩
end HROWS

