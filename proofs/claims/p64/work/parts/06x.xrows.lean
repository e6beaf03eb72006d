def strTab : List (String × Nat × String) := [("BookmarkManager", 333, "no such page"), ("BookmarkManager", 338, "the weight is out of range"), ("BookmarkManager", 366, "the call is rejected"), ("BookmarkManager", 353, "no mark with this id"), ("BookmarkManager", 98, "a dog ear has no seat"), ("BookmarkManager", 108, "no such seat"), ("BookmarkManager", 357, "there is no such mark"), ("BookmarkManager", 348, "no such chapter"), ("BookmarkManager", 343, "the count is out of range"), ("BookmarkManager", 172, "no later page is held"), ("BookmarkManager", 211, "there are no marks"), ("BookmarkManager", 250, "no character at this index"), ("BookmarkManager", 355, "no call was rejected")]
/-! what throws -/
def dgOnes (j : Nat) : Value := .int (nI (48 + j % 10))
def dgTens (j : Nat) : Value := .int (nI (48 + j / 10))
/-- the JDK's statics that text building reads -/
def SBp (A : Nat → Prop) (U : State) (H : Heap) : Prop :=
  va_Z "java/lang/String" "COMPACT_STRINGS" "Z" (.int 1) A U H ∧ (∃ t : Nat, va_Z "java/lang/Integer" "DigitOnes" "[B" (.ref t) A U H ∧ va_T .byte t 100 dgOnes A U H) ∧ ∃ t : Nat, va_Z "java/lang/Integer" "DigitTens" "[B" (.ref t) A U H ∧ va_T .byte t 100 dgTens A U H
/-- words that the tables decide, and that warming keeps, each by its own law -/
def nwK (w : Cond) : Bool := match w with
  | .declares _ => true
  | .castable _ _ => true
  | .methodLinkNest _ _ _ _ => true
  | .fieldLinkNest _ _ _ _ _ _ => true
  | _ => false
def nwW : List Cond := lw_tbl.filter nwK
theorem nwK_tabs {w : Cond} (h : nwK w = true) : w.onTables = true := by
  cases w <;> first | rfl | (simp [nwK] at h)
theorem nw_warm {s U : State} (hW : s.WarmedH U.vm) {w : Cond} (hk : nwK w = true) (h : va_Nw w s) : va_Nw w U := by
  cases w <;> first | (simp [nwK] at hk; done) | exact va_Nw.warmD hW h | exact va_Nw.warmC hW h | exact va_Nw.warmM hW h | exact va_Nw.warmF hW h
/-- what a throw needs of the world around -/
def Ev (A : Nat → Prop) (U : State) (H : Heap) : Prop :=
  vx_Zq Bundle.tN "UNASSIGNED_STACK" Bundle.steD A U H ∧ vx_Zq Bundle.tN "SUPPRESSED_SENTINEL" Bundle.listD A U H ∧ (∀ q ∈ strTab, ∃ sa : Nat, vk_R q.1 q.2.1 q.2.2 sa U) ∧ SBp A U H ∧ ∀ w ∈ nwW, va_Nw w U
theorem va_T.moved9 {ty : FieldType} {t N : Nat} {f : Nat → Value} {A : Nat → Prop} {u U : State} {H : Heap} (hvm : u.vm.Alike U.vm) (h : va_T ty t N f A u H) : va_T ty t N f A U H := va_T.moved hvm h
theorem Ev.pass {A B : Nat → Prop} {u U : State} {H H1 : Heap} (hW : u.WarmedH U.vm) (h : Ev A u H) (hq : ∀ a : Nat, a < H.size → ¬ A a → H1[a]? = H[a]?) (hAB : ∀ q, B q → A q) : Ev B U H1 := by
  obtain ⟨h1, h2, h3, ⟨h4, ⟨t1, h5, h6⟩, t2, h7, h8⟩, h9⟩ := h
  refine ⟨((h1.moved hW.alike).kept hq).narrow hAB, ((h2.moved hW.alike).kept hq).narrow hAB, fun q hq => ?_, ⟨((h4.moved hW.alike).kept hq).narrow hAB, ⟨t1, ((h5.moved hW.alike).kept hq).narrow hAB, ((va_T.moved hW.alike h6).kept hq).narrow hAB⟩, t2, ((h7.moved hW.alike).kept hq).narrow hAB, ((va_T.moved hW.alike h8).kept hq).narrow hAB⟩, fun w hw => nw_warm hW (List.mem_filter.mp hw).2 (h9 w hw)⟩
  obtain ⟨sa, h⟩ := h3 q hq
  exact ⟨sa, h.warm hW⟩
abbrev RX9 : Type := (Option Value × va_W) ⊕ (String × va_W)
def mcR (R : RX9) : Nat := match R with
  | .inl _ => 0
  | .inr _ => 1
def msR (R : RX9) : Nat := match R with
  | .inl _ => 0
  | .inr _ => 6
abbrev rmX (f x : Nat) (R : RX9) : Room := { frames := f, cells := mcR R, slots := msR R, locals := x }
def bx {α β γ : Type} (r : α ⊕ β) (k1 : α → γ) (k2 : β → γ) : γ := match r with
  | .inl a => k1 a
  | .inr b => k2 b
theorem bx_l {α β γ : Type} {a : α} {k1 : α → γ} {k2 : β → γ} {z : γ} (h : bx (.inl a) k1 k2 = z) : k1 a = z := h
theorem bx_r {α β γ : Type} {a : β} {k1 : α → γ} {k2 : β → γ} {z : γ} (h : bx (.inr a) k1 k2 = z) : k2 a = z := h
def QX (D : va_G) (R : RX9) (w0 : va_W) (sz : Nat) : Array Value → State → Outcome → State → Prop := fun _ st oc t => ∃ (rv : Option Value) (w1 : va_W), R = .inl (rv, w1) ∧ oc = .returned rv ∧ va_P D cl0 w1 t.heap ∧ va_F (va_A w0 sz) st t
def XX (D : va_G) (R : RX9) (w0 : va_W) (sz : Nat) : String → State → State → Prop := fun E st t => ∃ w1 : va_W, R = .inr (E, w1) ∧ va_P D cl0 w1 t.heap ∧ va_F (va_A w0 sz) st t
/-- y returns or throws, as R says -/
def CtX (l : Launch) (D : va_G) (g : G0) (y : MethodName) (b : ByteArray) (n : Nat) (ret : Option FieldType) (rm : Room) (w0 : va_W) (av : List Value) (R : RX9) : Prop :=
  ∀ sz : Nat, vx_Met l y (wM y b n ret) rm (va_Pc av (fun U => U.heap.size = sz ∧ va_P D cl0 w0 U.heap ∧ va_K D cl0 (TY g) U ∧ va_D (fun _ => True) w0 ∧ Ev (va_A w0 sz) U U.heap)) (QX D R w0 sz) (XX D R w0 sz) (mcR R) (msR R) (va_A w0 sz)
/-- what the walk of a body that may throw knows beside -/
def KZ (K : KT) (R : RX9) (w0 : va_W) (ret : Option FieldType) : Prop :=
  (kl K).stackTraces = false ∧ (∀ x ∈ (kc K).exceptionTable.toList, False) ∧ Ev (kA K) (ks K) (ks K).heap ∧ kQ K = vx_MQ (kb K) (QX (kD K) R w0 (ks K).heap.size) (XX (kD K) R w0 (ks K).heap.size) (ka K) (ks K) (mcR R) (msR R) (va_A w0 (ks K).heap.size) ∧ kA K = va_A w0 (ks K).heap.size ∧ (kM K).locks = false ∧ (kM K).sig.returnType = ret
theorem CtX.of {l : Launch} {D : va_G} {g : G0} {y : MethodName} {b : ByteArray} {n : Nat} {ret : Option FieldType} {rm : Room} {w0 : va_W} {av : List Value} {R : RX9} (hy : plainName y.cls = true) (hav : (lg_sl av).length ≤ n) (hst : l.stackTraces = false)
    (body : ∀ K : KT, KX K b y.cls rm g → KZ K R w0 ret → kA K = kB K → l = kl K → D = kD K → kn K = n → V K 0 0 w0 (lv_args 0 av) [] 0) : CtX l D g y b n ret rm w0 av R := by
  intro sz
  refine vx_ofW (cc := b) (maxL := n) (ret := ret) hy rfl ?_
  intro p e s m args below meth c s₁ BL hml htab hv
  obtain ⟨rfl, hsz, hP, hK, hD, hE⟩ := hv
  subst hsz
  have hts : ∀ w ∈ wU, w.before av.toArray s = true := fun w h => atoms_spec (ws := wM y b n ret) BL.pre w (List.mem_cons_of_mem _ h)
  have hown : s.vm.findClass y.cls = some m.cls := findClass_of_methodNamed BL.named
  rw [lg_entry_eq]
  have hl := lv_entry av (n := n) hav
  exact body (p, l, e, rm, s, m, av.toArray, below, meth, c, n, D, va_A w0 s.heap.size, va_A w0 s.heap.size, vx_MQ below (QX D R w0 s.heap.size) (XX D R w0 s.heap.size) av.toArray s (mcR R) (msR R) (va_A w0 s.heap.size)) ⟨BL.exec, BL.bytes, hts, hown, hK, hml, rfl, fun q h => Or.inr h, fun q h => Or.inl h⟩ ⟨hst, htab, hE, rfl, rfl, BL.notSynchronized, BL.returns⟩ rfl rfl rfl rfl s.heap [] _ hP hD.self va_S.rf hl
section VXROWS
variable {K : KT} {cc : ByteArray} {own : String} {rm : Room} {g : G0} {cells slots : Nat} {ws ws' w0 : va_W} {lv lv' : List (Nat × Value)} {st rest : List Value} {pc : Nat} {R : RX9} {ret : Option FieldType}
theorem V_xretI (C : KX K cc own rm g) (Z : KZ K R w0 ret) {v : Int32} {ty : FieldType} (hret : ret = some ty) (hn : narrow ty (.int v) = .int v) (hR : R = .inl (some (.int v), ws)) (hd : decode cc pc = .ok (.ireturn, 1)) (hc : cells ≤ mcR R) (hs : slots ≤ msR R) : V K cells slots ws lv [.int v] pc := by
  obtain ⟨z1, z2, z3, z4, z5, z6, z7⟩ := Z
  intro H locs ls hP hD hS hl
  rw [z4]
  refine W.widen hc hs ?_
  refine vx_ret ?_
  exact W.zret C.1 C.2.1 (by rw [z7]; exact hret) hn (fun t ht hW => ⟨some (.int v), ws, hR, rfl, by rw [ht]; exact hP, by rw [← z5]; exact hS.F ht⟩) (by rw [← z5]; exact hS.2.2) hd z6
theorem V_xretV (C : KX K cc own rm g) (Z : KZ K R w0 ret) (hret : ret = none) (hR : R = .inl (none, ws)) (hd : decode cc pc = .ok (.return_, 1)) (hc : cells ≤ mcR R) (hs : slots ≤ msR R) : V K cells slots ws lv [] pc := by
  obtain ⟨z1, z2, z3, z4, z5, z6, z7⟩ := Z
  intro H locs ls hP hD hS hl
  rw [z4]
  refine W.widen hc hs ?_
  refine vx_ret ?_
  exact W.vret C.1 C.2.1 (by rw [z7]; exact hret) (fun t ht hW => ⟨none, ws, hR, rfl, by rw [ht]; exact hP, by rw [← z5]; exact hS.F ht⟩) (by rw [← z5]; exact hS.2.2) hd z6
/-- E goes on to the caller -/
theorem VX_out (C : KX K cc own rm g) (Z : KZ K R w0 ret) {E : String} (hR : R = .inr (E, ws)) (hc : cells ≤ mcR R) (hs : slots ≤ msR R) : VX K cells slots ws lv E pc := by
  obtain ⟨z1, z2, z3, z4, z5, z6, z7⟩ := Z
  intro H locs ls rest ce q hP hD hS hl hq hv hcl
  rw [z4]
  refine vx_out (fun x hx => (z2 x hx).elim) z6 hq hv hcl (fun t ht hA => ⟨ws, hR, by rw [ht]; exact hP, by rw [← z5]; exact hS.F ht⟩) (by rw [← z5]; exact hS.2.2) hc hs
/-- 'throw new E("text")': its words -/
def TL (own : String) (ik ic is : Nat) (E text : String) : Prop :=
  Bundle.fit E = true ∧ Cond.classLink own ik E ∈ wU ∧ Cond.initialized E ∈ wU ∧ (∀ w ∈ vx_atS own ic E ["java/lang/RuntimeException", "java/lang/Exception"], w ∈ wU ∨ w ∈ nwW) ∧ (own, is, text) ∈ strTab
theorem at_of {L : List Cond} (is : List Nat) (hl : L.length = is.length) (h : (L.zip is).all (fun q => decide (lw_tbl[q.2]? = some q.1) && (goodWord q.1 || nwK q.1)) = true) : ∀ w ∈ L, w ∈ wU ∨ w ∈ nwW := by
  intro w hw
  obtain ⟨k, hk⟩ := List.getElem?_of_mem hw
  have hkl := (List.getElem?_eq_some_iff.mp hk).1
  have hz : (w, is[k]'(by omega)) ∈ L.zip is := by
    refine List.mem_of_getElem? (i := k) ?_
    rw [List.getElem?_zip_eq_some]
    exact ⟨hk, List.getElem?_eq_getElem _⟩
  have h1 := List.all_eq_true.mp h _ hz
  rw [Bool.and_eq_true] at h1
  have hm := List.mem_of_getElem? (of_decide_eq_true h1.1)
  rcases (Bool.or_eq_true _ _).mp h1.2 with h2 | h2
  · exact Or.inl (List.mem_filter.mpr ⟨hm, h2⟩)
  · exact Or.inr (List.mem_filter.mpr ⟨hm, h2⟩)
theorem fitN : ∀ n ∈ ["java/lang/RuntimeException", "java/lang/Exception"], Bundle.fit n = true := by decide +kernel
theorem V_throw (C : KX K cc own rm g) (Z : KZ K R w0 ret) {ik ic is : Nat} {E text : String} (tl : TL own ik ic is E text) (d0 : decode cc pc = .ok (.new ik, 3)) (d3 : decode cc (pc + 3) = .ok (.dup, 1)) (d4 : decode cc (pc + 4) = .ok (.ldc is, 2)) (d6 : decode cc (pc + 6) = .ok (.invokespecial ic, 3)) (d9 : decode cc (pc + 9) = .ok (.athrow, 1)) (hrm : 5 < rm.frames ∧ (rest.map fun v => v.category).sum + 82 ≤ rm.locals ∧ cells + 1 ≤ rm.cells ∧ slots + 6 ≤ rm.slots) (hR : R = .inr (E, ws)) (hc : cells + 1 ≤ mcR R) (hs : slots + 6 ≤ msR R) : V K cells slots ws lv rest pc := by
  obtain ⟨z1, z2, z3, z4, z5, z6, z7⟩ := Z
  obtain ⟨t1, t2, t3, t4, t5⟩ := tl
  obtain ⟨sa, hsa⟩ := z3.2.2.1 _ t5
  intro H locs ls hP hD hS hl
  rw [z4]
  have hR2 : kR K = rm := C.2.2.2.2.2.2.1
  refine vx_throwS C.1 C.2.1 z1 C.2.2.2.1 t1 fitN (C.2.2.1 _ t2) (C.2.2.1 _ t3) hsa (fun w h => (t4 w h).elim (C.2.2.1 w) (fun h2 => va_Nw.use (nwK_tabs (List.mem_filter.mp h2).2) (z3.2.2.2.2 w h2))) (fun w h => ?_) z3.1 z3.2.1 hS (by rw [hl.1, C.2.2.2.2.2.1]) d0 d3 d4 d6 d9 (fun x hx => (z2 x hx).elim) (by rw [hR2]; exact hrm.1) (by rw [hR2]; exact hrm.2.1) (by rw [hR2]; exact hrm.2.2.1) (by rw [hR2]; exact hrm.2.2.2) z6 (fun t hA hsz hq => ?_) (by rw [← z5]; exact hS.2.2) hc hs
  · have hw : w ∈ wU ∨ w ∈ nwW := by
      rcases List.mem_cons.mp h with rfl | h
      · exact Or.inl t2
      rcases List.mem_cons.mp h with rfl | h
      · exact Or.inl t3
      · exact t4 w h
    unfold vx_ot
    rcases hw with hw | hw
    · rw [(List.mem_filter.mp hw).2, Bool.or_true]
    · rw [nwK_tabs (List.mem_filter.mp hw).2, Bool.true_or]
  · refine ⟨ws, hR, hP.kept fun k q hk => hq q.1 (hP k q hk).lt, Nat.le_trans hS.1 hsz, fun q h1 h2 => ?_⟩
    rw [hq q (Nat.lt_of_lt_of_le h1 hS.1)]
    rw [← z5] at h2
    exact hS.2.1 q h1 h2
theorem V_throwW (C : KX K cc own rm g) (Z : KZ K R w0 ret) {ik ic is : Nat} {E text : String} (tl : TL own ik ic is E text) (d0 : decode cc pc = .ok (.new ik, 3)) (d3 : decode cc (pc + 3) = .ok (.dup, 1)) (d4 : decode cc (pc + 4) = .ok (.ldc_w is, 3)) (d7 : decode cc (pc + 7) = .ok (.invokespecial ic, 3)) (d10 : decode cc (pc + 10) = .ok (.athrow, 1)) (hrm : 5 < rm.frames ∧ (rest.map fun v => v.category).sum + 82 ≤ rm.locals ∧ cells + 1 ≤ rm.cells ∧ slots + 6 ≤ rm.slots) (hR : R = .inr (E, ws)) (hc : cells + 1 ≤ mcR R) (hs : slots + 6 ≤ msR R) : V K cells slots ws lv rest pc := by
  obtain ⟨z1, z2, z3, z4, z5, z6, z7⟩ := Z
  obtain ⟨t1, t2, t3, t4, t5⟩ := tl
  obtain ⟨sa, hsa⟩ := z3.2.2.1 _ t5
  intro H locs ls hP hD hS hl
  rw [z4]
  have hR2 : kR K = rm := C.2.2.2.2.2.2.1
  refine vx_throwSW C.1 C.2.1 z1 C.2.2.2.1 t1 fitN (C.2.2.1 _ t2) (C.2.2.1 _ t3) hsa (fun w h => (t4 w h).elim (C.2.2.1 w) (fun h2 => va_Nw.use (nwK_tabs (List.mem_filter.mp h2).2) (z3.2.2.2.2 w h2))) (fun w h => ?_) z3.1 z3.2.1 hS (by rw [hl.1, C.2.2.2.2.2.1]) d0 d3 d4 d7 d10 (fun x hx => (z2 x hx).elim) (by rw [hR2]; exact hrm.1) (by rw [hR2]; exact hrm.2.1) (by rw [hR2]; exact hrm.2.2.1) (by rw [hR2]; exact hrm.2.2.2) z6 (fun t hA hsz hq => ?_) (by rw [← z5]; exact hS.2.2) hc hs
  · have hw : w ∈ wU ∨ w ∈ nwW := by
      rcases List.mem_cons.mp h with rfl | h
      · exact Or.inl t2
      rcases List.mem_cons.mp h with rfl | h
      · exact Or.inl t3
      · exact t4 w h
    unfold vx_ot
    rcases hw with hw | hw
    · rw [(List.mem_filter.mp hw).2, Bool.or_true]
    · rw [nwK_tabs (List.mem_filter.mp hw).2, Bool.true_or]
  · refine ⟨ws, hR, hP.kept fun k q hk => hq q.1 (hP k q hk).lt, Nat.le_trans hS.1 hsz, fun q h1 h2 => ?_⟩
    rw [hq q (Nat.lt_of_lt_of_le h1 hS.1)]
    rw [← z5] at h2
    exact hS.2.1 q h1 h2
end VXROWS
section VXCALLS
variable {K : KT} {cc : ByteArray} {own : String} {rm : Room} {g : G0} {cells slots : Nat} {ws ws' w0 : va_W} {lv lv' : List (Nat × Value)} {st st' rest : List Value} {pc : Nat} {R Rc : RX9} {ret ret2 : Option FieldType}
variable {f2 x2 n na idx ci : Nat} {y : MethodName} {b : ByteArray} {as : List Value}
/-- a call of a method that may throw: both ends -/
theorem V_callX (C : KX K cc own rm g) (hBA : kA K = kB K) (hE : Ev (kA K) (ks K) (ks K).heap) (ml : CLv own idx ci y b n ret2 na) {wc pre post : va_W} {b0 : Nat} {fs : List Value} (ct : CtX (kl K) (kD K) g y b n ret2 (rmX f2 x2 Rc) wc (.ref b0 :: as) Rc) (q0 : Nat) (hd : decode cc pc = .ok (.invokevirtual idx, 3)) (hR : f2 + 1 ≤ rm.frames ∧ 8 + (n + 11) + x2 ≤ rm.locals) (hn : as.length = na) (hw : ws = pre ++ (wc ++ post)) (hq0 : ws[q0]? = some (b0, .inr (ci, fs))) (hst : st = as.reverse ++ .ref b0 :: rest) (hrm : (rest.map fun v => v.category).sum ≤ 8) (hroom : cells + mcR Rc ≤ rm.cells ∧ slots + msR Rc ≤ rm.slots)
    (kk : ∀ (rv : Option Value) (w1 : va_W), Rc = .inl (rv, w1) → w1.map Prod.fst = wc.map Prod.fst ∧ V K (cells + mcR Rc) (slots + msR Rc) (pre ++ (w1 ++ post)) lv (rv.toList ++ rest) (pc + 3))
    (kx : ∀ (E : String) (w1 : va_W), Rc = .inr (E, w1) → w1.map Prod.fst = wc.map Prod.fst ∧ VX K (cells + mcR Rc) (slots + msR Rc) (pre ++ (w1 ++ post)) lv E pc) : V K cells slots ws lv st pc := by
  obtain ⟨h0, hG, T0, N0, hcl⟩ := ml
  intro H locs ls hP hD hS hl
  have hR2 : kR K = rm := C.2.2.2.2.2.2.1
  have hrecv := va_recv C.2.2.2.2.1 hP hcl hq0
  rw [hw] at hP hD
  have hin : ∀ q, va_A wc H.size q → kA K q := by
    rintro q (⟨k, e, h⟩ | h)
    · rw [hBA]
      exact hD.rt.lf.2 k _ h
    · exact C.2.2.2.2.2.2.2.1 q (Nat.le_trans hS.1 h)
  have hr := vx_runV (p := kp K) (l := kl K) (e := ke K) (R := kR K) (s := ks K) (m := km K) (args := ka K) (below := kb K) (meth := kM K) (c := kc K) (H := H) (As := as) (rest := rest) (cells := cells) (slots := slots) (locs := locs) (g := F0 (km K) pc ls st) ⟨C.1, C.2.1, C.2.2.2.2.2.1, C.2.2.2.1, C.2.2.1⟩ (ct H.size) (cwV na C.2.2.1 (gU hG) rfl rfl rfl ⟨rfl, h0⟩ (by rw [hR2]; exact hR)) ⟨fun a U gg mk q => by
      obtain ⟨q0, qz, qP, qK, qD, e1, e2, e3, e4, e5⟩ := q
      exact ⟨q0, qz, qP, va_K.moved (u := U) (U := U.calling gg mk a) (Vm.Alike.refl U.vm) qK, qD, e1, e2, e3, e4, fun w hw => va_Nw.same (u := U) (U := U.calling gg mk a) (nwK_tabs (List.mem_filter.mp hw).2) rfl (e5 w hw)⟩, hrecv, fun U hU hW => ⟨rfl, by rw [hU], by rw [hU]; exact hP.rt.lf, va_K.moved hW.alike C.2.2.2.2.1, hD.rt.lf.weaken fun _ _ _ _ => trivial, by rw [hU]; exact hE.pass hW (fun a h1 h2 => hS.2.1 a h1 h2) hin⟩⟩ rfl hn hl.1 hst (lv_room hrm) hd (by rw [hR2]; exact hroom)
  have hSt : ∀ (t : State) (H1 : Heap) (L : List Loc), t.heap = H1 → H.size ≤ H1.size → (∀ q : Nat, q < H.size → ¬ va_A wc H.size q → H1[q]? = H[q]?) → (∀ z ∈ L, va_A wc H.size z.base) → va_S (kA K) (ks K).heap H1 (locs ++ L) := fun t H1 L _ hz hk hL =>
    ⟨Nat.le_trans hS.1 hz, fun q h1 h2 => by rw [hk q (Nat.lt_of_lt_of_le h1 hS.1) (fun z => h2 (hin q z))]; exact hS.2.1 q h1 h2, fun q hq => by
      rcases List.mem_append.mp hq with h | h
      · exact hS.2.2 q h
      · exact hin _ (hL q h)⟩
  intro T hT X
  rcases hr T hT X with ⟨v, st₀, t, T', L, g1, X', hL, e1, e2, ⟨rv, w1, hRc, hv, hw1, hF⟩, stp⟩ | ⟨q, st₀, t, T', L, E, ce, g1, X', hL, e1, e2, ⟨w1, hRc, hw1, hF⟩, hce, hvm, hcE, stp⟩
  · cases hv
    obtain ⟨hz, hk⟩ := hF
    rw [g1] at hz hk
    obtain ⟨em, kk⟩ := kk v w1 hRc
    obtain ⟨hP2, hD2⟩ := va_mid hP hD em hw1 hk
    obtain ⟨t2, a1, b1⟩ := kk T'.heap (locs ++ L) ls (by rw [e1]; exact hP2) hD2 (by rw [e1]; exact hSt t _ L rfl hz hk hL) hl T' rfl X'
    exact ⟨t2, stp t2 a1, b1⟩
  · obtain ⟨hz, hk⟩ := hF
    rw [g1] at hz hk
    obtain ⟨em, kx⟩ := kx E w1 hRc
    obtain ⟨hP2, hD2⟩ := va_mid hP hD em hw1 hk
    obtain ⟨t2, a1, b1⟩ := kx T'.heap (locs ++ L) ls rest ce q (by rw [e1]; exact hP2) hD2 (by rw [e1]; exact hSt t _ L rfl hz hk hL) hl (by rw [e1]; exact hce) hvm hcE T' rfl X'
    exact ⟨t2, Steps.trans stp a1, b1⟩
/-- .. that returns -/
theorem V_callXr (C : KX K cc own rm g) (hBA : kA K = kB K) (hE : Ev (kA K) (ks K) (ks K).heap) (ml : CLv own idx ci y b n ret2 na) {wc w1 pre post : va_W} {rv : Option Value} {b0 : Nat} {fs : List Value} (ct : CtX (kl K) (kD K) g y b n ret2 (rmX f2 x2 (.inl (rv, w1))) wc (.ref b0 :: as) (.inl (rv, w1))) (q0 pc' : Nat) (ws' : va_W) (hd : decode cc pc = .ok (.invokevirtual idx, 3)) (hp : pc + 3 = pc') (hR : f2 + 1 ≤ rm.frames ∧ 8 + (n + 11) + x2 ≤ rm.locals) (hn : as.length = na) (hw : ws = pre ++ (wc ++ post)) (hw' : pre ++ (w1 ++ post) = ws') (e : w1.map Prod.fst = wc.map Prod.fst) (hq0 : ws[q0]? = some (b0, .inr (ci, fs))) (hst : st = as.reverse ++ .ref b0 :: rest) (hst' : rv.toList ++ rest = st') (hrm : (rest.map fun v => v.category).sum ≤ 8) (hroom : cells ≤ rm.cells ∧ slots ≤ rm.slots)
    (kk : V K cells slots ws' lv st' pc') : V K cells slots ws lv st pc := by
  subst hp
  subst hw'
  subst hst'
  refine V_callX C hBA hE ml ct q0 hd hR hn hw hq0 hst hrm hroom (fun rv' w1' h => ?_) (fun E w1' h => ?_)
  · cases h
    exact ⟨e, kk⟩
  · cases h
/-- .. that throws -/
theorem V_callXt (C : KX K cc own rm g) (hBA : kA K = kB K) (hE : Ev (kA K) (ks K) (ks K).heap) (ml : CLv own idx ci y b n ret2 na) {wc w1 pre post : va_W} {E : String} {b0 : Nat} {fs : List Value} (ct : CtX (kl K) (kD K) g y b n ret2 (rmX f2 x2 (.inr (E, w1))) wc (.ref b0 :: as) (.inr (E, w1))) (q0 : Nat) (ws' : va_W) (hd : decode cc pc = .ok (.invokevirtual idx, 3)) (hR : f2 + 1 ≤ rm.frames ∧ 8 + (n + 11) + x2 ≤ rm.locals) (hn : as.length = na) (hw : ws = pre ++ (wc ++ post)) (hw' : pre ++ (w1 ++ post) = ws') (e : w1.map Prod.fst = wc.map Prod.fst) (hq0 : ws[q0]? = some (b0, .inr (ci, fs))) (hst : st = as.reverse ++ .ref b0 :: rest) (hrm : (rest.map fun v => v.category).sum ≤ 8) (hroom : cells + 1 ≤ rm.cells ∧ slots + 6 ≤ rm.slots)
    (kx : VX K (cells + 1) (slots + 6) ws' lv E pc) : V K cells slots ws lv st pc := by
  subst hw'
  refine V_callX C hBA hE ml ct q0 hd hR hn hw hq0 hst hrm hroom (fun rv' w1' h => ?_) (fun E' w1' h => ?_)
  · cases h
  · cases h
    exact ⟨e, kx⟩
end VXCALLS
