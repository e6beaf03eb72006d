/-! ===== what allocates: contracts and calls ===== -/
theorem SBp.pass {A B : Nat → Prop} {u U : State} {H H1 : Heap} (hW : u.WarmedH U.vm) (h : SBp A u H) (hq : ∀ a : Nat, a < H.size → ¬ A a → H1[a]? = H[a]?) (hAB : ∀ q, B q → A q) : SBp B U H1 := by
  obtain ⟨h4, ⟨t1, h5, h6⟩, t2, h7, h8⟩ := h
  exact ⟨((h4.moved hW.alike).kept hq).narrow hAB, ⟨t1, ((h5.moved hW.alike).kept hq).narrow hAB, ((va_T.moved hW.alike h6).kept hq).narrow hAB⟩, t2, ((h7.moved hW.alike).kept hq).narrow hAB, ((va_T.moved hW.alike h8).kept hq).narrow hAB⟩
/-- private methods of text building, on its receiver -/
def jsW : List Cond := [Cond.selects "java/lang/StringBuilder" ⟨"java/lang/AbstractStringBuilder", "ensureCapacityInternal", "(I)V"⟩ ⟨"java/lang/AbstractStringBuilder", "ensureCapacityInternal", "(I)V"⟩, Cond.selects "java/lang/StringBuilder" ⟨"java/lang/AbstractStringBuilder", "newCapacity", "(I)I"⟩ ⟨"java/lang/AbstractStringBuilder", "newCapacity", "(I)I"⟩, Cond.selects "java/lang/StringBuilder" ⟨"java/lang/AbstractStringBuilder", "putStringAt", "(ILjava/lang/String;)V"⟩ ⟨"java/lang/AbstractStringBuilder", "putStringAt", "(ILjava/lang/String;)V"⟩, Cond.selects "java/lang/StringBuilder" ⟨"java/lang/AbstractStringBuilder", "inflateIfNeededFor", "(Ljava/lang/String;)V"⟩ ⟨"java/lang/AbstractStringBuilder", "inflateIfNeededFor", "(Ljava/lang/String;)V"⟩]
theorem jsW_ok : ∀ w ∈ jsW, w.onTables = true ∧ w.keeps = true := by
  intro w hw
  rcases List.mem_cons.mp hw with rfl | hw
  · exact ⟨rfl, rfl⟩
  rcases List.mem_cons.mp hw with rfl | hw
  · exact ⟨rfl, rfl⟩
  rcases List.mem_cons.mp hw with rfl | hw
  · exact ⟨rfl, rfl⟩
  rcases List.mem_cons.mp hw with rfl | hw
  · exact ⟨rfl, rfl⟩
  exact absurd hw List.not_mem_nil
/-- pairs of classes that are no sub- and superclass -/
def ncL : List (String × String) := [("java/lang/IllegalArgumentException", "java/lang/IndexOutOfBoundsException"), ("java/lang/UnsupportedOperationException", "java/lang/IndexOutOfBoundsException"), ("java/lang/UnsupportedOperationException", "java/lang/IllegalArgumentException"), ("java/util/NoSuchElementException", "java/lang/IndexOutOfBoundsException")]
def NcW (U : State) : Prop := ∀ q ∈ ncL, va_Nc q.1 q.2 U
theorem NcW.warm {s U : State} (hW : s.WarmedH U.vm) (h : NcW s) : NcW U := fun q hq => (h q hq).moved hW.alike
/-- the law's own texts: "-", " r", " e", "*", "", "," -/
def ksLen : List Nat := [1, 2, 2, 1, 0, 1]
def ksByt : List (List Int32) := [[45], [32, 114], [32, 101], [42], [], [44]]
def ksTab : List (Nat × String × Nat) := [(165, "-", 0), (177, " r", 1), (179, " e", 2), (181, "*", 3), (218, "", 4), (220, ",", 5)]
/-- where they stand -/
abbrev kK (D : va_G) (i : Nat) : Nat := D.1 (100 + i)
abbrev kV (D : va_G) (i : Nat) : Nat := D.1 (200 + i)
/-- the script: where, how long, what -/
abbrev scB (D : va_G) : Nat := D.1 300
abbrev scL (D : va_G) : Nat := D.1 301
abbrev scX (D : va_G) (j : Nat) : Int32 := Int32.ofNat (D.2 300 j)
def SK (D : va_G) (A : Nat → Prop) (U : State) (H : Heap) : Prop := vk_S 6 ksLen ksByt (kK D) (kV D) A U H ∧ (∀ q ∈ ksTab, vk_R RL q.1 q.2.1 (kK D q.2.2) U) ∧ va_T .int (scB D) (scL D) (fun j => .int (scX D j)) A U H ∧ scL D ≤ 260 ∧ NcW U
theorem SK.pass {D : va_G} {A B : Nat → Prop} {u U : State} {H H1 : Heap} (hW : u.WarmedH U.vm) (h : SK D A u H) (hq : ∀ a : Nat, a < H.size → ¬ A a → H1[a]? = H[a]?) (hAB : ∀ q, B q → A q) : SK D B U H1 :=
  ⟨((h.1.moved hW.alike).kept hq).narrow hAB, fun q hq => (h.2.1 q hq).warm hW, ((va_T.moved hW.alike h.2.2.1).kept hq).narrow hAB, h.2.2.2.1, h.2.2.2.2.warm hW⟩
def SBq (D : va_G) (A : Nat → Prop) (U : State) (H : Heap) : Prop := SBp A U H ∧ ((∀ w ∈ jsW, va_Nw w U) ∧ SK D A U H) ∧ (∀ w ∈ nwW, va_Nw w U) ∧ va_AO "BookmarkManager$Book" U ∧ va_Zq "jdk/internal/util/Preconditions" "SIOOBE_FORMATTER" "Ljava/util/function/BiFunction;" A U H ∧ Ev A U H
theorem SBq.pass {D : va_G} {A B : Nat → Prop} {u U : State} {H H1 : Heap} (hW : u.WarmedH U.vm) (h : SBq D A u H) (hq : ∀ a : Nat, a < H.size → ¬ A a → H1[a]? = H[a]?) (hAB : ∀ q, B q → A q) : SBq D B U H1 := by
  obtain ⟨h1, h2, h3, h4, h5, h6⟩ := h
  refine ⟨h1.pass hW hq hAB, ⟨fun w hw => ?_, h2.2.pass hW hq hAB⟩, fun w hw => nw_warm hW (List.mem_filter.mp hw).2 (h3 w hw), h4.moved hW.alike, ((va_Zq.moved hW.alike h5).kept hq).narrow hAB, h6.pass hW hq hAB⟩
  have o := jsW_ok w hw
  exact word_at hW (Or.inl (by rw [o.1, o.2]; rfl)) (h2.1 w hw)
def QN (D : va_G) (P : Option Value → va_W → Prop) (w0 : va_W) (sz : Nat) : Array Value → State → Outcome → State → Prop := fun _ st oc t => ∃ (rv : Option Value) (w1 : va_W), P rv w1 ∧ oc = .returned rv ∧ va_P D cl0 w1 t.heap ∧ va_D (va_A w0 sz) w1 ∧ va_F (va_A w0 sz) st t
/-- y returns; what it returns and the world that it leaves are as P says; at most mc cells of ms slots are new -/
def CtN (l : Launch) (D : va_G) (g : G0) (y : MethodName) (b : ByteArray) (n : Nat) (ret : Option FieldType) (rm : Room) (w0 : va_W) (av : List Value) (P : Option Value → va_W → Prop) (mc ms : Nat) : Prop :=
  ∀ sz : Nat, Met l y (wM y b n ret) rm (va_Pc av (fun U => U.heap.size = sz ∧ va_P D cl0 w0 U.heap ∧ va_K D cl0 (TY g) U ∧ va_D (fun _ => True) w0 ∧ SBq D (va_A w0 sz) U U.heap)) (QN D P w0 sz) mc ms (va_A w0 sz)
/-- what the walk of such a body knows beside -/
def KN (K : KT) (P : Option Value → va_W → Prop) (w0 : va_W) (ret : Option FieldType) (mc ms : Nat) : Prop :=
  SBq (kD K) (kA K) (ks K) (ks K).heap ∧ kQ K = MQ (kb K) (QN (kD K) P w0 (ks K).heap.size) (ka K) (ks K) mc ms (va_A w0 (ks K).heap.size) ∧ kA K = va_A w0 (ks K).heap.size ∧ kB K = kA K ∧ (kM K).locks = false ∧ (kM K).sig.returnType = ret
theorem CtN.of {l : Launch} {D : va_G} {g : G0} {y : MethodName} {b : ByteArray} {n : Nat} {ret : Option FieldType} {rm : Room} {w0 : va_W} {av : List Value} {P : Option Value → va_W → Prop} {mc ms : Nat} (hy : plainName y.cls = true) (hav : (lg_sl av).length ≤ n)
    (body : ∀ K : KT, KX K b y.cls rm g → KN K P w0 ret mc ms → kA K = kB K → l = kl K → D = kD K → kn K = n → V K 0 0 w0 (lv_args 0 av) [] 0) : CtN l D g y b n ret rm w0 av P mc ms := by
  intro sz
  refine Met.ofW (cc := b) (maxL := n) (ret := ret) hy rfl ?_
  intro p e s m args below meth c s₁ BL hml hv
  obtain ⟨rfl, hsz, hP, hK, hD, hE⟩ := hv
  subst hsz
  have hts : ∀ w ∈ wU, w.before av.toArray s = true := fun w h => atoms_spec (ws := wM y b n ret) BL.pre w (List.mem_cons_of_mem _ h)
  have hown : s.vm.findClass y.cls = some m.cls := findClass_of_methodNamed BL.named
  rw [lg_entry_eq]
  have hl := lv_entry av (n := n) hav
  exact body (p, l, e, rm, s, m, av.toArray, below, meth, c, n, D, va_A w0 s.heap.size, va_A w0 s.heap.size, MQ below (QN D P w0 s.heap.size) av.toArray s mc ms (va_A w0 s.heap.size)) ⟨BL.exec, BL.bytes, hts, hown, hK, hml, rfl, fun q h => Or.inr h, fun q h => Or.inl h⟩ ⟨hE, rfl, rfl, rfl, BL.notSynchronized, BL.returns⟩ rfl rfl rfl rfl s.heap [] _ hP hD.self va_S.rf hl
section NEWROWS
variable {K : KT} {cc : ByteArray} {own : String} {rm : Room} {g : G0} {cells slots : Nat} {ws ws' w0 : va_W} {lv lv' : List (Nat × Value)} {st rest : List Value} {pc : Nat} {P : Option Value → va_W → Prop} {ret : Option FieldType} {mc ms : Nat}
theorem V_nretI (C : KX K cc own rm g) (Z : KN K P w0 ret mc ms) {v : Int32} {ty : FieldType} (hret : ret = some ty) (hn : narrow ty (.int v) = .int v) (hR : P (some (.int v)) ws) (hd : decode cc pc = .ok (.ireturn, 1)) (hc : cells ≤ mc) (hs : slots ≤ ms) : V K cells slots ws lv [.int v] pc := by
  obtain ⟨z1, z4, z5, z8, z6, z7⟩ := Z
  intro H locs ls hP hD hS hl
  rw [z4]
  refine W.widen hc hs ?_
  exact W.zret C.1 C.2.1 (by rw [z7]; exact hret) hn (fun t ht hW => ⟨some (.int v), ws, hR, rfl, by rw [ht]; exact hP, by rw [← z5, ← z8]; exact hD, by rw [← z5]; exact hS.F ht⟩) (by rw [← z5]; exact hS.2.2) hd z6
theorem V_nretV (C : KX K cc own rm g) (Z : KN K P w0 ret mc ms) (hret : ret = none) (hR : P none ws) (hd : decode cc pc = .ok (.return_, 1)) (hc : cells ≤ mc) (hs : slots ≤ ms) : V K cells slots ws lv [] pc := by
  obtain ⟨z1, z4, z5, z8, z6, z7⟩ := Z
  intro H locs ls hP hD hS hl
  rw [z4]
  refine W.widen hc hs ?_
  exact W.vret C.1 C.2.1 (by rw [z7]; exact hret) (fun t ht hW => ⟨none, ws, hR, rfl, by rw [ht]; exact hP, by rw [← z5, ← z8]; exact hD, by rw [← z5]; exact hS.F ht⟩) (by rw [← z5]; exact hS.2.2) hd z6
theorem V_nretA (C : KX K cc own rm g) (Z : KN K P w0 ret mc ms) {a : Nat} {ty : FieldType} (hret : ret = some ty) (hty : (∃ n, ty = .object n) ∨ ∃ t, ty = .array t) (hR : P (some (.ref a)) ws) (hd : decode cc pc = .ok (.areturn, 1)) (hc : cells ≤ mc) (hs : slots ≤ ms) : V K cells slots ws lv [.ref a] pc := by
  obtain ⟨z1, z4, z5, z8, z6, z7⟩ := Z
  intro H locs ls hP hD hS hl
  rw [z4]
  refine W.widen hc hs ?_
  exact W.aret C.1 C.2.1 (by rw [z7]; exact hret) hty (Or.inr ⟨a, rfl⟩) (fun t ht hW => ⟨some (.ref a), ws, hR, rfl, by rw [ht]; exact hP, by rw [← z5, ← z8]; exact hD, by rw [← z5]; exact hS.F ht⟩) (by rw [← z5]; exact hS.2.2) hd z6
theorem V_ishl (C : KX K cc own rm g) {x y : Int32} (pc' : Nat) (hd : decode cc pc = .ok (.ishl, 1)) (hp : pc + 1 = pc') (kk : V K cells slots ws lv (.int (x <<< (y &&& 31)) :: rest) pc') : V K cells slots ws lv (.int y :: .int x :: rest) pc := by
  subst hp
  intro H locs ls hP hD hS hl
  exact lv_ishl C.1 C.2.1 hd (kk H locs ls hP hD hS hl)
theorem V_ishr (C : KX K cc own rm g) {x y : Int32} (pc' : Nat) (hd : decode cc pc = .ok (.ishr, 1)) (hp : pc + 1 = pc') (kk : V K cells slots ws lv (.int (x >>> (y &&& 31)) :: rest) pc') : V K cells slots ws lv (.int y :: .int x :: rest) pc := by
  subst hp
  intro H locs ls hP hD hS hl
  exact lv_ishr C.1 C.2.1 hd (kk H locs ls hP hD hS hl)
theorem V_alen (C : KX K cc own rm g) {a : Nat} {t0 : Nat} {cA : ClassId} {x : vp_A} {ty : FieldType} (q0 pc' : Nat) (v : Int32) (hd : decode cc pc = .ok (.arraylength, 1)) (hp : pc + 1 = pc') (ha : ws[q0]? = some (a, .inl (cA, x))) (ht : (TY g)[t0]? = some (cA, ty)) (hv : Int32.ofNat x.1 = v) (kk : V K cells slots ws lv (.int v :: rest) pc') : V K cells slots ws lv (.ref a :: rest) pc := by
  subst hp
  intro H locs ls hP hD hS hl
  exact va_alen C.1 C.2.1 C.2.2.2.2.1 hP q0 t0 ha ht hv hd (kk H locs ls hP hD hS hl)
theorem V_bast (C : KX K cc own rm g) (hBA : kA K = kB K) {a n : Nat} {f : Nat → Int32} {i x : Int32} (q0 pc' : Nat) (ws' : va_W) (hd : decode cc pc = .ok (.bastore, 1)) (hp : pc + 1 = pc') (ha : ws[q0]? = some (a, aB g n f)) (hin : inb i n = true) (hw : ws.set q0 (a, aB g n (upd f (cl i) (vp_nar .byte x))) = ws') (kk : V K cells slots ws' lv rest pc') : V K cells slots ws lv (.int x :: .int i :: .ref a :: rest) pc := by
  subst hp
  subst hw
  intro H locs ls hP hD hS hl
  refine va_bast C.1 C.2.1 C.2.2.2.2.1 hP (A := kA K) (by rw [hBA]; exact hD) hS q0 2 ha rfl (inb_t hin) hd (fun H1 locs1 hP1 hD1 hS1 => ?_)
  exact kk H1 locs1 ls hP1 (by rw [← hBA]; exact hD1) hS1 hl
/-- a static field that is known -/
theorem V_gets (C : KX K cc own rm g) {Cn nm d ref : String} {v : Value} {index : Nat} (pc' : Nat) (hZ : va_Z Cn nm d v (kA K) (ks K) (ks K).heap) (hl2 : Cond.fieldLink own index ref nm d ∈ wU) (href : ref = Cn) (hd : decode cc pc = .ok (.getstatic index, 3)) (hp : pc + 3 = pc') (kk : V K cells slots ws lv (v :: rest) pc') : V K cells slots ws lv rest pc := by
  subst hp
  subst href
  intro H locs ls hP hD hS hl
  exact va_gets C.1 C.2.1 hZ hS C.2.2.2.1 (C.2.2.1 _ hl2) (fun _ h9 => h9) hd (kk H locs ls hP hD hS hl)
/-- an element of a table of the JDK's -/
theorem V_tb (C : KX K cc own rm g) {t N : Nat} {f : Nat → Value} {i : Int32} {v : Value} (pc' : Nat) (hT : va_T .byte t N f (kA K) (ks K) (ks K).heap) (hin : inb i N = true) (hv : f (cl i) = v) (hd : decode cc pc = .ok (.baload, 1)) (hp : pc + 1 = pc') (kk : V K cells slots ws lv (v :: rest) pc') : V K cells slots ws lv (.int i :: .ref t :: rest) pc := by
  subst hp
  intro H locs ls hP hD hS hl
  exact va_tb C.1 C.2.1 hT hS (inb_t hin) hv hd (kk H locs ls hP hD hS hl)
/-- a new array of bytes -/
theorem V_newB (C : KX K cc own rm g) (hBA : kA K = kB K) {n : Int32} (N' pc' : Nat) (hA : Cond.arrayClass (.byte) ∈ wU) (hn : ¬ n < 0) (hN : cl n = N') (hb : N' ≤ 2 ^ 20) (hcells : cells + 1 ≤ rm.cells) (hslots : slots + N' ≤ rm.slots) (hd : decode cc pc = .ok (.newarray .byte, 2)) (hp : pc + 2 = pc') (kk : ∀ q : Nat, V K (cells + 1) (slots + N') (ws ++ [(q, aB g N' (fun _ => 0))]) lv (.ref q :: rest) pc') : V K cells slots ws lv (.int n :: rest) pc := by
  subst hp
  intro H locs ls hP hD hS hl
  have hR2 : kR K = rm := C.2.2.2.2.2.2.1
  refine va_newa C.1 C.2.1 (atype := .byte) (ty := .byte) (N' := N') (a0 := (N', .inl (fun _ => 0))) (C.2.2.1 _ hA) rfl C.2.2.2.2.1 hP (A := kA K) (by rw [hBA]; exact hD) hS C.2.2.2.2.2.2.2.1 (fun cA => rfl) hn hN (by show N' * 1 ≤ 536870912; omega) (by rw [hR2]; exact hcells) (by rw [hR2]; exact hslots) hd (fun q cA H1 hK1 hP1 hD1 hS1 => ?_)
  have e : cA = g.2.2.1 := by
    have h1 := (hK1.2 2 (g.2.2.1, .byte) rfl).2
    have h2 := (hK1.2 6 (cA, .byte) rfl).2
    exact Option.some.inj (h2.symm.trans h1)
  subst e
  exact kk q H1 locs ls hP1 (by rw [← hBA]; exact hD1) hS1 hl
end NEWROWS
