/-! ===== texts: rows ===== -/
/-- a String of the law's own making -/
abbrev strW (g : G0) (s : Nat × Nat) (n : Nat) (f : Nat → Int32) : va_W := [(s.1, .inr (4, [.ref s.2, .int 0, .int 0, .int 0])), (s.2, aB g n f)]
section SROWS
variable {K : KT} {cc : ByteArray} {own : String} {rm : Room} {g : G0} {cells slots : Nat} {ws ws' w0 : va_W} {lv lv' : List (Nat × Value)} {st rest : List Value} {pc : Nat} {P : Option Value → va_W → Prop} {mc ms : Nat}
theorem SBq.sk {D : va_G} {A : Nat → Prop} {U : State} {H : Heap} (h : SBq D A U H) : SK D A U H := h.2.1.2
/-- a text of the law's own is loaded -/
theorem V_ldcK (C : KX K cc RL rm g) (hE : SBq (kD K) (kA K) (ks K) (ks K).heap) {index i : Nat} {tx : String} (pc' : Nat) (hm : (index, tx, i) ∈ ksTab) (hd : decode cc pc = .ok (.ldc index, 2)) (hp : pc + 2 = pc') (kk : V K cells slots ws lv (.ref (kK (kD K) i) :: rest) pc') : V K cells slots ws lv rest pc := by
  subst hp
  intro H locs ls hP hD hS hl
  exact va_ldcS C.1 C.2.1 C.2.2.2.1 (hE.sk.2.1 _ hm) hd (kk H locs ls hP hD hS hl)
theorem V_getKc (C : KX K cc own rm g) (hE : SBq (kD K) (kA K) (ks K) (ks K).heap) {index i : Nat} (hi : i < 6) (pc' : Nat) (hlk : Cond.fieldLink own index "java/lang/String" "coder" "B" ∈ wU) (hd : decode cc pc = .ok (.getfield index, 3)) (hp : pc + 3 = pc') (kk : V K cells slots ws lv (.int 0 :: rest) pc') : V K cells slots ws lv (.ref (kK (kD K) i) :: rest) pc := by
  subst hp
  intro H locs ls hP hD hS hl
  exact vk_getf C.1 C.2.1 (hE.sk.1.1 i hi).2.1 hS C.2.2.2.1 (C.2.2.1 _ hlk) (fun _ h => h) hd (kk H locs ls hP hD hS hl)
theorem V_getKv (C : KX K cc own rm g) (hE : SBq (kD K) (kA K) (ks K) (ks K).heap) {index i : Nat} (hi : i < 6) (pc' : Nat) (hlk : Cond.fieldLink own index "java/lang/String" "value" "[B" ∈ wU) (hd : decode cc pc = .ok (.getfield index, 3)) (hp : pc + 3 = pc') (kk : V K cells slots ws lv (.ref (kV (kD K) i) :: rest) pc') : V K cells slots ws lv (.ref (kK (kD K) i) :: rest) pc := by
  subst hp
  intro H locs ls hP hD hS hl
  exact vk_getf C.1 C.2.1 (hE.sk.1.1 i hi).2.2.1 hS C.2.2.2.1 (C.2.2.1 _ hlk) (fun _ h => h) hd (kk H locs ls hP hD hS hl)
theorem V_alenK (C : KX K cc own rm g) (hE : SBq (kD K) (kA K) (ks K) (ks K).heap) {i : Nat} (hi : i < 6) (pc' : Nat) (hd : decode cc pc = .ok (.arraylength, 1)) (hp : pc + 1 = pc') (kk : V K cells slots ws lv (.int (nI (ksLen.getD i 0)) :: rest) pc') : V K cells slots ws lv (.ref (kV (kD K) i) :: rest) pc := by
  subst hp
  intro H locs ls hP hD hS hl
  exact va_tlen C.1 C.2.1 (hE.sk.1.1 i hi).2.2.2 hS rfl hd (kk H locs ls hP hD hS hl)
/-- the script's numbers, its length -/
theorem V_scr (C : KX K cc own rm g) (hE : SBq (kD K) (kA K) (ks K) (ks K).heap) {i : Int32} (pc' : Nat) (hin : inb i (scL (kD K)) = true) (hd : decode cc pc = .ok (.iaload, 1)) (hp : pc + 1 = pc') (kk : V K cells slots ws lv (.int (scX (kD K) (cl i)) :: rest) pc') : V K cells slots ws lv (.int i :: .ref (scB (kD K)) :: rest) pc := by
  subst hp
  intro H locs ls hP hD hS hl
  exact va_ti C.1 C.2.1 hE.sk.2.2.1 hS (inb_t hin) rfl hd (kk H locs ls hP hD hS hl)
theorem V_scrL (C : KX K cc own rm g) (hE : SBq (kD K) (kA K) (ks K) (ks K).heap) (pc' : Nat) (hd : decode cc pc = .ok (.arraylength, 1)) (hp : pc + 1 = pc') (kk : V K cells slots ws lv (.int (nI (scL (kD K))) :: rest) pc') : V K cells slots ws lv (.ref (scB (kD K)) :: rest) pc := by
  subst hp
  intro H locs ls hP hD hS hl
  exact va_tlen C.1 C.2.1 hE.sk.2.2.1 hS rfl hd (kk H locs ls hP hD hS hl)
/-- bytes are copied: all of the first, to a place of the second -/
theorem V_bcopyD (C : KX K cc own rm g) (hBA : kA K = kB K) {idx a0 a N0 N1 k d : Nat} {f h : Nat → Int32} (q0 q1 pc' : Nat) (ws' : va_W) (al : AL own idx) (hd : decode cc pc = .ok (.invokestatic idx, 3)) (hp : pc + 3 = pc') (ha0 : ws[q0]? = some (a0, aB g N0 f)) (ha1 : ws[q1]? = some (a, aB g N1 h)) (hk0 : k ≤ N0) (hk1 : d + k ≤ N1) (hkb : d + k < 2 ^ 31) (hf : sb_Fit f) (hroom : 1 ≤ rm.frames ∧ (rest.map fun v => v.category).sum + (nativeFrameWords "java/lang/System" "arraycopy" 5 + 11) ≤ rm.locals) (hw : ws.set q1 (a, aB g N1 (va_cpy f h 0 d k)) = ws') (kk : V K cells slots ws' lv rest pc') : V K cells slots ws lv (.int (nI k) :: .int (nI d) :: .ref a :: .int 0 :: .ref a0 :: rest) pc := by
  subst hp
  subst hw
  obtain ⟨w1, w2, w3, w4⟩ := al
  have hR2 : kR K = rm := C.2.2.2.2.2.2.1
  intro H locs ls hP hD hS hl
  have z0 : (0 : Int32).toNatClampNeg = 0 := by decide
  have zk : (nI k).toNatClampNeg = k := cl_n (by omega)
  have zd : (nI d).toNatClampNeg = d := cl_n (by omega)
  refine va_copyi (A := kA K) C.1 C.2.1 (by rw [C.2.2.2.2.2.1, hl.1]) C.2.2.2.1 (C.2.2.1 _ w1) (C.2.2.1 _ w2) (C.2.2.1 _ w3) (C.2.2.1 _ w4) C.2.2.2.2.1 hP (by rw [hBA]; exact hD) hS q0 q1 2 2 ha0 ha1 rfl rfl rfl (by decide) (nI_pos (by omega)) (nI_pos (by omega)) (by rw [z0, zk]; omega) (by rw [zd, zk]; omega) (fun i _ => hf _) (by rw [hR2]; exact hroom.1) (by rw [hR2]; exact hroom.2) hd (fun H1 locs1 hP1 hD1 hS1 => ?_)
  rw [z0, zk, zd] at hP1 hD1
  exact kk H1 locs1 ls hP1 (by rw [← hBA]; exact hD1) hS1 hl
theorem ks_fit {i j : Nat} : fits .byte (.int ((ksByt.getD i []).getD j 0)) = true := by
  by_cases hi : i < 6
  · by_cases hj : j < 2
    · have key : ∀ a : Fin 6, ∀ b : Fin 2, fits .byte (.int ((ksByt.getD a.val []).getD b.val 0)) = true := by decide +kernel
      exact key ⟨i, hi⟩ ⟨j, hj⟩
    · have hl : (ksByt.getD i []).length ≤ 2 := by
        have key : ∀ a : Fin 6, (ksByt.getD a.val []).length ≤ 2 := by decide +kernel
        exact key ⟨i, hi⟩
      rw [List.getD_eq_getElem?_getD, List.getElem?_eq_none (by omega)]
      exact sb_fit0 0
  · have e : ksByt.getD i [] = [] := by
      rw [List.getD_eq_getElem?_getD, List.getElem?_eq_none (show ksByt.length ≤ i by show 6 ≤ i; omega)]
      rfl
    rw [e]
    exact sb_fit0 0
theorem V_bcopyK (C : KX K cc own rm g) (hBA : kA K = kB K) (hE : SBq (kD K) (kA K) (ks K) (ks K).heap) {idx a N1 d i : Nat} {h : Nat → Int32} (hi : i < 6) (q1 pc' : Nat) (ws' : va_W) (al : AL own idx) (hd : decode cc pc = .ok (.invokestatic idx, 3)) (hp : pc + 3 = pc') (ha1 : ws[q1]? = some (a, aB g N1 h)) (hk1 : d + ksLen.getD i 0 ≤ N1) (hkb : N1 < 2 ^ 30) (hroom : 1 ≤ rm.frames ∧ (rest.map fun v => v.category).sum + (nativeFrameWords "java/lang/System" "arraycopy" 5 + 11) ≤ rm.locals) (hw : ws.set q1 (a, aB g N1 (va_cpy (fun j => (ksByt.getD i []).getD j 0) h 0 d (ksLen.getD i 0))) = ws') (kk : V K cells slots ws' lv rest pc') : V K cells slots ws lv (.int (nI (ksLen.getD i 0)) :: .int (nI d) :: .ref a :: .int 0 :: .ref (kV (kD K) i) :: rest) pc := by
  subst hp
  subst hw
  obtain ⟨w1, w2, w3, w4⟩ := al
  have hR2 : kR K = rm := C.2.2.2.2.2.2.1
  intro H locs ls hP hD hS hl
  have z0 : (0 : Int32).toNatClampNeg = 0 := by decide
  have zk : (nI (ksLen.getD i 0)).toNatClampNeg = ksLen.getD i 0 := cl_n (by omega)
  have zd : (nI d).toNatClampNeg = d := cl_n (by omega)
  refine vk_copyt (A := kA K) C.1 C.2.1 (by rw [C.2.2.2.2.2.1, hl.1]) C.2.2.2.1 (C.2.2.1 _ w1) (C.2.2.1 _ w2) (C.2.2.1 _ w3) (C.2.2.1 _ w4) C.2.2.2.2.1 hP (by rw [hBA]; exact hD) hS (hE.sk.1.1 i hi).2.2.2 q1 2 ha1 rfl (by decide) (nI_pos (by omega)) (nI_pos (by omega)) (by rw [z0, zk]; omega) (by rw [zd, zk]; omega) (fun j _ => ks_fit) (by rw [hR2]; exact hroom.1) (by rw [hR2]; exact hroom.2) hd (fun H1 locs1 hP1 hD1 hS1 => ?_)
  rw [z0, zk, zd] at hP1 hD1
  exact kk H1 locs1 ls hP1 (by rw [← hBA]; exact hD1) hS1 hl
variable {f2 x2 n na idx ci : Nat} {y : MethodName} {b : ByteArray} {ret : Option FieldType} {as : List Value}
/-- a call on a text of the law's own -/
theorem V_callNk (C : KX K cc own rm g) (hBA : kA K = kB K) (hE : SBq (kD K) (kA K) (ks K) (ks K).heap) {i : Nat} (hi : i < 6) (ml : CLv own idx 4 y b n ret na) (hy : y.cls = "java/lang/String") {w0 pre post : va_W} (ct : CtN (kl K) (kD K) g y b n ret (rmN f2 x2 mc ms) w0 (.ref (kK (kD K) i) :: as) P mc ms) (hd : decode cc pc = .ok (.invokevirtual idx, 3)) (hR : f2 + 1 ≤ rm.frames ∧ 8 + (n + 11) + x2 ≤ rm.locals) (hn : as.length = na) (hw : ws = pre ++ (w0 ++ post)) (hst : st = as.reverse ++ .ref (kK (kD K) i) :: rest) (hrm : (rest.map fun v => v.category).sum ≤ 8) (hroom : cells + mc ≤ rm.cells ∧ slots + ms ≤ rm.slots)
    (kk : ∀ (rv : Option Value) (w1 : va_W), P rv w1 → V K (cells + mc) (slots + ms) (pre ++ (w1 ++ post)) lv (rv.toList ++ rest) (pc + 3)) : V K cells slots ws lv st pc := by
  obtain ⟨h0, hG, T0, N0, hcl⟩ := ml
  intro H locs ls hP hD hS hl
  have hR2 : kR K = rm := C.2.2.2.2.2.2.1
  have hrecv := vk_recv hE.sk.1 hi hS
  rw [← hy] at hrecv
  rw [hw] at hP hD
  exact V_backN C hBA hP hD hS hl (va_runV (As := as) (rest := rest) ⟨C.1, C.2.1, C.2.2.2.2.2.1, C.2.2.2.1, C.2.2.1⟩ (ct H.size) (cwV na C.2.2.1 (gU hG) rfl rfl rfl ⟨rfl, h0⟩ (by rw [hR2]; exact hR)) ⟨fun a U gg mk q => pre_blind (l := kl K) a U gg mk q, hrecv, fun U hU hW => pre_ok C hBA hE hP hD hS U hU hW⟩ rfl hn hl.1 hst (lv_room hrm) hd (by rw [hR2]; exact hroom)) kk
theorem V_aconst0 (C : KX K cc own rm g) (pc' : Nat) (hd : decode cc pc = .ok (.aconst_null, 1)) (hp : pc + 1 = pc') (kk : V K cells slots ws lv (.null :: st) pc') : V K cells slots ws lv st pc := by
  subst hp
  intro H locs ls hP hD hS hl
  exact lv_null C.1 C.2.1 hd (kk H locs ls hP hD hS hl)
theorem V_ifnonnull (C : KX K cc own rm g) {a : Nat} {off : Int} (tgt : Nat) (hd : decode cc pc = .ok (.ifnonnull off, 3)) (ht : (pc : Int) + off = (tgt : Int)) (kk : V K cells slots ws lv rest tgt) : V K cells slots ws lv (.ref a :: rest) pc := by
  intro H locs ls hP hD hS hl
  exact lv_ifnonnull C.1 C.2.1 hd ht (kk H locs ls hP hD hS hl)
/-- a call through an overridden name -/
theorem V_callNx (C : KX K cc own rm g) (hBA : kA K = kB K) (hE : SBq (kD K) (kA K) (ks K) (ks K).heap) {x : MethodName} {bx : ByteArray} {nx : Nat} {rx : Option FieldType} {C1 : String} {T1 : u_T} {N1 : Nat} (w1 : Cond.methodLink own idx x ∈ wU) (w2 : Cond.sameMethod x.cls x.cls x.name x.desc ∈ wU) (w3 : Cond.instanceMethod x ∈ wU) (w4 : Cond.code x bx nx rx ∈ wU) (w5 : Cond.instanceMethod y ∈ wU) (w6 : Cond.code y b n ret ∈ wU) (w7 : Cond.initialized y.cls ∈ wU) (w8 : Cond.selects C1 x y ∈ wU) (hcl : cl0[ci]? = some (C1, T1, N1)) (hx : x.cls ≠ "java/lang/invoke/MethodHandle" ∧ x.cls ≠ "java/lang/invoke/VarHandle" ∧ (parseMethodDescriptor x.desc).map (fun d => d.parameters.length) = some na) {w0 pre post : va_W} {b0 : Nat} {fs : List Value} (ct : CtN (kl K) (kD K) g y b n ret (rmN f2 x2 mc ms) w0 (.ref b0 :: as) P mc ms) (q0 : Nat) (hd : decode cc pc = .ok (.invokevirtual idx, 3)) (hR : f2 + 1 ≤ rm.frames ∧ 8 + (n + 11) + x2 ≤ rm.locals) (hn : as.length = na) (hw : ws = pre ++ (w0 ++ post)) (hq0 : ws[q0]? = some (b0, .inr (ci, fs))) (hst : st = as.reverse ++ .ref b0 :: rest) (hrm : (rest.map fun v => v.category).sum ≤ 8) (hroom : cells + mc ≤ rm.cells ∧ slots + ms ≤ rm.slots)
    (kk : ∀ (rv : Option Value) (w1 : va_W), P rv w1 → V K (cells + mc) (slots + ms) (pre ++ (w1 ++ post)) lv (rv.toList ++ rest) (pc + 3)) : V K cells slots ws lv st pc := by
  intro H locs ls hP hD hS hl
  have hR2 : kR K = rm := C.2.2.2.2.2.2.1
  have hrecv := va_recv C.2.2.2.2.1 hP hcl hq0
  rw [hw] at hP hD
  have cu : va_CU (kR K) (ks K) (ka K) own C1 x.cls idx x y b n ret (wM y b n ret) (rmN f2 x2 mc ms) mc ms na := ⟨⟨rfl, rfl, by rw [hR2]; exact hR.1, by rw [hR2]; exact hR.2, pay_in C.2.2.1 (gU (wM_in w6)), List.mem_cons_self⟩, C.2.2.1 _ w6, C.2.2.1 _ w7, ⟨hx.1, hx.2.1⟩, fun sig h => by
    have h3 := hx.2.2
    rw [h] at h3
    exact (Option.some.inj h3).symm, C.2.2.1 _ w1, C.2.2.1 _ w2, va_Decl.of (C.2.2.1 _ w3) (C.2.2.1 _ w4), C.2.2.1 _ w8, C.2.2.1 _ w5⟩
  exact V_backN C hBA hP hD hS hl (va_runU (As := as) (rest := rest) ⟨C.1, C.2.1, C.2.2.2.2.2.1, C.2.2.2.1, C.2.2.1⟩ (ct H.size) cu ⟨fun a U gg mk q => pre_blind (l := kl K) a U gg mk q, hrecv, fun U hU hW => pre_ok C hBA hE hP hD hS U hU hW⟩ rfl hn hl.1 hst (lv_room hrm) hd (by rw [hR2]; exact hroom)) kk
/-- a copy of a row of bytes -/
theorem V_cloneB (C : KX K cc own rm g) (hBA : kA K = kB K) (hE : SBq (kD K) (kA K) (ks K) (ks K).heap) {a N : Nat} {f : Nat → Int32} {index : Nat} (q0 pc' : Nat) (w1 : Cond.methodLink own index ⟨"[B", "clone", "()Ljava/lang/Object;"⟩ ∈ wU) (w2 : Cond.sameMethod "[B" "java/lang/Object" "clone" "()Ljava/lang/Object;" ∈ wU) (w3 : Cond.native ⟨"java/lang/Object", "clone", "()Ljava/lang/Object;"⟩ ∈ wU) (w4 : Cond.instanceMethod ⟨"java/lang/Object", "clone", "()Ljava/lang/Object;"⟩ ∈ wU) (w5 : Cond.selects "[B" ⟨"[B", "clone", "()Ljava/lang/Object;"⟩ ⟨"java/lang/Object", "clone", "()Ljava/lang/Object;"⟩ ∈ wU) (w6 : Cond.castable "[B" "java/lang/Cloneable" ∈ nwW) (ha : ws[q0]? = some (a, aB g N f)) (hf : sb_Fit f) (hR : 1 ≤ rm.frames ∧ (rest.map fun v => v.category).sum + 14 ≤ rm.locals) (hroom : cells + 1 ≤ rm.cells ∧ slots + N ≤ rm.slots) (hd : decode cc pc = .ok (.invokevirtual index, 3)) (hp : pc + 3 = pc') (kk : ∀ q : Nat, V K (cells + 1) (slots + N) (ws ++ [(q, aB g N f)]) lv (.ref q :: rest) pc') : V K cells slots ws lv (.ref a :: rest) pc := by
  subst hp
  have hR2 : kR K = rm := C.2.2.2.2.2.2.1
  intro H locs ls hP hD hS hl
  refine va_clone (ad := "[B") (x := (N, .inl f)) (cA := g.2.2.1) (ty := .byte) (A := kA K) (H0 := (ks K).heap) C.1 C.2.1 (by rw [C.2.2.2.2.2.1, hl.1]) C.2.2.2.1 (C.2.2.1 _ w1) (C.2.2.1 _ w2) (C.2.2.1 _ w3) (C.2.2.1 _ w4) (C.2.2.1 _ w5) (hE.2.2.1 _ w6) C.2.2.2.2.1 hP (by rw [hBA]; exact hD) hS C.2.2.2.2.2.2.2.1 q0 2 ha rfl (C.2.2.2.2.1.2 2 (g.2.2.1, .byte) rfl).2 (fun i v h => ?_) (by rw [hR2]; exact hR.1) (by rw [hR2]; exact hR.2) (by rw [hR2]; exact hroom.1) (by rw [hR2]; exact hroom.2) hd (fun q H1 _ hP1 hD1 hS1 => kk q H1 locs ls hP1 (by rw [← hBA]; exact hD1) hS1 hl)
  have e : (vp_cell g.2.2.1 (N, .inl f)).slots = ((List.range N).map (fun j => Value.int (f j))).toArray := by
    show (arrV g.2.2.1 N (fun j => .int (f j))).slots = _
    unfold arrV
    apply Array.ext
    · simp
    · intro i h1 h2
      simp
  rw [e] at h
  have h2 := List.getElem?_toArray (xs := (List.range N).map (fun j => Value.int (f j))) (i := i)
  rw [h] at h2
  obtain ⟨j, -, hj⟩ := List.mem_map.mp (List.mem_of_getElem? h2.symm)
  rw [← hj]
  exact hf j
theorem V_castB (C : KX K cc own rm g) {a N : Nat} {f : Nat → Int32} {index : Nat} (q0 pc' : Nat) (w1 : Cond.classLink own index "[B" ∈ wU) (ha : ws[q0]? = some (a, aB g N f)) (hd : decode cc pc = .ok (.checkcast index, 3)) (hp : pc + 3 = pc') (kk : V K cells slots ws lv (.ref a :: rest) pc') : V K cells slots ws lv (.ref a :: rest) pc := by
  subst hp
  intro H locs ls hP hD hS hl
  exact va_castA (nm := "[B") C.1 C.2.1 C.2.2.2.1 (C.2.2.1 _ w1) hP q0 ha (C.2.2.2.2.1.2 2 (g.2.2.1, .byte) rfl).2 hd (kk H locs ls hP hD hS hl)
end SROWS
