/-! ===== calls of what allocates ===== -/
/-- a world in three parts, the middle one left by a callee with new cells -/
theorem va_midN {D : va_G} {cl : List vw_C} {B : Nat → Prop} {pre w0 w1 post : va_W} {H H1 : Heap} (hP : va_P D cl (pre ++ (w0 ++ post)) H) (hD : va_D B (pre ++ (w0 ++ post))) (hB : ∀ q, H.size ≤ q → B q) (hP1 : va_P D cl w1 H1) (hD1 : va_D (va_A w0 H.size) w1) (hk : ∀ q : Nat, q < H.size → ¬ va_A w0 H.size q → H1[q]? = H[q]?) : va_P D cl (pre ++ (w1 ++ post)) H1 ∧ va_D B (pre ++ (w1 ++ post)) := by
  have outP : ∀ {k : Nat} {q : Nat × va_E}, pre[k]? = some q → q.1 < H.size ∧ ¬ va_A w0 H.size q.1 := by
    intro k q hq
    have hlt := (hP.lf k q hq).lt
    refine ⟨hlt, ?_⟩
    rintro (⟨j, e, hj⟩ | hge)
    · exact hD.ap hq (show (w0 ++ post)[j]? = some (q.1, e) by rw [List.getElem?_append_left (List.getElem?_eq_some_iff.mp hj).1]; exact hj) rfl
    · omega
  have outQ : ∀ {k : Nat} {q : Nat × va_E}, post[k]? = some q → q.1 < H.size ∧ ¬ va_A w0 H.size q.1 := by
    intro k q hq
    have hlt := (hP.rt.rt k q hq).lt
    refine ⟨hlt, ?_⟩
    rintro (⟨j, e, hj⟩ | hge)
    · exact hD.rt.ap hj hq rfl
    · omega
  refine ⟨va_P.app (hP.lf.kept fun k q hq => hk q.1 (outP hq).1 (outP hq).2) (va_P.app hP1 (hP.rt.rt.kept fun k q hq => hk q.1 (outQ hq).1 (outQ hq).2)), ?_⟩
  have hB1 : va_D B w1 := hD1.weaken fun k q hq h => by
    rcases h with ⟨j, e, hj⟩ | h
    · exact hD.rt.lf.2 j (q.1, e) hj
    · exact hB _ h
  refine va_D.app hD.lf (va_D.app hB1 hD.rt.rt fun i j x y hx hy hxy => ?_) fun i j x y hx hy hxy => ?_
  · exact (outQ hy).2 (by rw [← hxy]; exact hD1.2 i x hx)
  · by_cases hj : j < w1.length
    · rw [List.getElem?_append_left hj] at hy
      exact (outP hx).2 (by rw [hxy]; exact hD1.2 j y hy)
    · rw [List.getElem?_append_right (by omega)] at hy
      exact hD.ap (a := pre) (b := w0 ++ post) hx (show (w0 ++ post)[w0.length + (j - w1.length)]? = some y by rw [List.getElem?_append_right (by omega)]; simpa using hy) hxy
section NEWCALLS
variable {K : KT} {cc : ByteArray} {own : String} {rm : Room} {g : G0} {cells slots : Nat} {ws ws' : va_W} {lv lv' : List (Nat × Value)} {st rest : List Value} {pc : Nat} {P : Option Value → va_W → Prop} {mc ms : Nat}
variable {f2 x2 n na idx ci : Nat} {y : MethodName} {b : ByteArray} {ret : Option FieldType} {as : List Value}
abbrev rmN (f x mc ms : Nat) : Room := { frames := f, cells := mc, slots := ms, locals := x }
/-- what stands behind a call that may allocate -/
theorem V_backN (C : KX K cc own rm g) (hBA : kA K = kB K) {ls : Array Slot} {H : Heap} {locs : List Loc} {a : Array Value} {pre w0 post : va_W} (hP : va_P (kD K) cl0 (pre ++ (w0 ++ post)) H) (hD : va_D (kB K) (pre ++ (w0 ++ post))) (hS : va_S (kA K) (ks K).heap H locs) (hl : lv_has ls (kn K) lv)
    (hr : va_Run (kp K) (kl K) (ke K) (kR K) (ks K) (km K) (ka K) (kb K) (kM K) (kc K) H locs cells slots mc ms (F0 (km K) pc ls st) rest (QN (kD K) P w0 H.size a) (va_A w0 H.size))
    (kk : ∀ (rv : Option Value) (w1 : va_W), P rv w1 → V K (cells + mc) (slots + ms) (pre ++ (w1 ++ post)) lv (rv.toList ++ rest) (pc + 3)) : W (kp K) (kl K) (ke K) (kR K) (ks K) (km K) (ka K) (kb K) (kM K) (kc K) H locs cells slots (kQ K) (F0 (km K) pc ls st) := by
  intro T hT X
  obtain ⟨v, st₀, t, T', L, h0, X', hL, e1, e2, ⟨rv, w1, hPv, hv, hw, hd1, hz, hk⟩, stp⟩ := hr T hT X
  cases hv
  rw [h0] at hz hk
  have hin : ∀ q, va_A w0 H.size q → kA K q := by
    rintro q (⟨k, e, h⟩ | h)
    · rw [hBA]
      exact hD.rt.lf.2 k _ h
    · exact C.2.2.2.2.2.2.2.1 q (Nat.le_trans hS.1 h)
  have hold : ∀ q : Nat, q < H.size → ¬ va_A w0 H.size q → T'.heap[q]? = H[q]? := fun q hq h => by rw [e1]; exact hk q hq h
  obtain ⟨hP2, hD2⟩ := va_midN hP hD (fun q hq => by rw [← hBA]; exact C.2.2.2.2.2.2.2.1 q (Nat.le_trans hS.1 hq)) (by rw [e1]; exact hw) hd1 hold
  obtain ⟨t2, a1, b1⟩ := kk v w1 hPv T'.heap (locs ++ L) ls hP2 hD2
    ⟨Nat.le_trans hS.1 (by rw [e1]; exact hz), fun q h1 h2 => by rw [hold q (Nat.lt_of_lt_of_le h1 hS.1) (fun z => h2 (hin q z))]; exact hS.2.1 q h1 h2, fun q hq => by
      rcases List.mem_append.mp hq with h | h
      · exact hS.2.2 q h
      · exact hin _ (hL q h)⟩ hl T' rfl X'
  exact ⟨t2, stp t2 a1, b1⟩
theorem pre_blind {l : Launch} {D : va_G} {w0 : va_W} {sz : Nat} {av : List Value} (a : Array Value) (U : State) (gg : JFrame) (mk : MethodId) (q : va_Pc av (fun U => U.heap.size = sz ∧ va_P D cl0 w0 U.heap ∧ va_K D cl0 (TY g) U ∧ va_D (fun _ => True) w0 ∧ SBq D (va_A w0 sz) U U.heap) a U) : va_Pc av (fun U => U.heap.size = sz ∧ va_P D cl0 w0 U.heap ∧ va_K D cl0 (TY g) U ∧ va_D (fun _ => True) w0 ∧ SBq D (va_A w0 sz) U U.heap) a (U.calling gg mk a) := by
  obtain ⟨q0, qz, qP, qK, qD, qE⟩ := q
  obtain ⟨e1, e2, e3, e4, e5, a1, a2, a3, a4, a5⟩ := qE
  exact ⟨q0, qz, qP, va_K.moved (u := U) (U := U.calling gg mk a) (Vm.Alike.refl U.vm) qK, qD, e1, ⟨fun w hw => va_Nw.same (u := U) (U := U.calling gg mk a) (jsW_ok w hw).1 rfl (e2.1 w hw), e2.2⟩, fun w hw => va_Nw.same (u := U) (U := U.calling gg mk a) (nwK_tabs (List.mem_filter.mp hw).2) rfl (e3 w hw), e4.moved (u := U) (U := U.calling gg mk a) (Vm.Alike.refl U.vm), e5, a1, a2, a3, a4, fun w hw => va_Nw.same (u := U) (U := U.calling gg mk a) (nwK_tabs (List.mem_filter.mp hw).2) rfl (a5 w hw)⟩
/-- what a callee finds -/
theorem pre_ok (C : KX K cc own rm g) (hBA : kA K = kB K) (hE : SBq (kD K) (kA K) (ks K) (ks K).heap) {H : Heap} {locs : List Loc} {pre w0 post : va_W} {av : List Value} (hP : va_P (kD K) cl0 (pre ++ (w0 ++ post)) H) (hD : va_D (kB K) (pre ++ (w0 ++ post))) (hS : va_S (kA K) (ks K).heap H locs) (U : State) (hU : U.heap = H) (hW : (ks K).WarmedH U.vm) : va_Pc av (fun U => U.heap.size = H.size ∧ va_P (kD K) cl0 w0 U.heap ∧ va_K (kD K) cl0 (TY g) U ∧ va_D (fun _ => True) w0 ∧ SBq (kD K) (va_A w0 H.size) U U.heap) av.toArray U := by
  have hin : ∀ q, va_A w0 H.size q → kA K q := by
    rintro q (⟨k, e, h⟩ | h)
    · rw [hBA]
      exact hD.rt.lf.2 k _ h
    · exact C.2.2.2.2.2.2.2.1 q (Nat.le_trans hS.1 h)
  exact ⟨rfl, by rw [hU], by rw [hU]; exact hP.rt.lf, va_K.moved hW.alike C.2.2.2.2.1, hD.rt.lf.weaken fun _ _ _ _ => trivial, by rw [hU]; exact hE.pass hW (fun a h1 h2 => hS.2.1 a h1 h2) hin⟩
/-- .. of an instance method of the object's own class -/
theorem V_callN (C : KX K cc own rm g) (hBA : kA K = kB K) (hE : SBq (kD K) (kA K) (ks K) (ks K).heap) (ml : CLv own idx ci y b n ret na) {w0 pre post : va_W} {b0 : Nat} {fs : List Value} (ct : CtN (kl K) (kD K) g y b n ret (rmN f2 x2 mc ms) w0 (.ref b0 :: as) P mc ms) (q0 : Nat) (hd : decode cc pc = .ok (.invokevirtual idx, 3)) (hR : f2 + 1 ≤ rm.frames ∧ 8 + (n + 11) + x2 ≤ rm.locals) (hn : as.length = na) (hw : ws = pre ++ (w0 ++ post)) (hq0 : ws[q0]? = some (b0, .inr (ci, fs))) (hst : st = as.reverse ++ .ref b0 :: rest) (hrm : (rest.map fun v => v.category).sum ≤ 8) (hroom : cells + mc ≤ rm.cells ∧ slots + ms ≤ rm.slots)
    (kk : ∀ (rv : Option Value) (w1 : va_W), P rv w1 → V K (cells + mc) (slots + ms) (pre ++ (w1 ++ post)) lv (rv.toList ++ rest) (pc + 3)) : V K cells slots ws lv st pc := by
  obtain ⟨h0, hG, T0, N0, hcl⟩ := ml
  intro H locs ls hP hD hS hl
  have hR2 : kR K = rm := C.2.2.2.2.2.2.1
  have hrecv := va_recv C.2.2.2.2.1 hP hcl hq0
  rw [hw] at hP hD
  exact V_backN C hBA hP hD hS hl (va_runV (As := as) (rest := rest) ⟨C.1, C.2.1, C.2.2.2.2.2.1, C.2.2.2.1, C.2.2.1⟩ (ct H.size) (cwV na C.2.2.1 (gU hG) rfl rfl rfl ⟨rfl, h0⟩ (by rw [hR2]; exact hR)) ⟨fun a U gg mk q => pre_blind (l := kl K) a U gg mk q, hrecv, fun U hU hW => pre_ok C hBA hE hP hD hS U hU hW⟩ rfl hn hl.1 hst (lv_room hrm) hd (by rw [hR2]; exact hroom)) kk
/-- a call of a static method: its words -/
def CLz (own : String) (idx : Nat) (y : MethodName) (b : ByteArray) (n : Nat) (ret : Option FieldType) (na : Nat) : Prop :=
  (y.cls ≠ "java/lang/invoke/MethodHandle" ∧ y.cls ≠ "java/lang/invoke/VarHandle" ∧ (parseMethodDescriptor y.desc).map (fun d => d.parameters.length) = some na) ∧ Cond.methodLink own idx y ∈ wU ∧ Cond.initialized y.cls ∈ wU ∧ Cond.code y b n ret ∈ wU
theorem CLz.cb {own : String} {idx : Nat} {y : MethodName} {b : ByteArray} {n : Nat} {ret : Option FieldType} {na mc ms f2 x2 : Nat} (h : CLz own idx y b n ret na) {R : Room} {s : State} {args : Array Value} (ht : ∀ w ∈ wU, w.before args s = true) (hR : f2 + 1 ≤ R.frames ∧ 8 + (n + 11) + x2 ≤ R.locals) : CallB R s args own idx y b n ret (wM y b n ret) (rmN f2 x2 mc ms) mc ms na :=
  callB_of na ht (gU (wM_in h.2.2.2)) rfl rfl rfl (ht _ h.2.2.1) (ht _ h.2.1) h.1 hR
theorem V_callNs (C : KX K cc own rm g) (hBA : kA K = kB K) (hE : SBq (kD K) (kA K) (ks K) (ks K).heap) (ml : CLz own idx y b n ret na) (hs : Cond.static y ∈ wU) {w0 pre post : va_W} (ct : CtN (kl K) (kD K) g y b n ret (rmN f2 x2 mc ms) w0 as P mc ms) (hd : decode cc pc = .ok (.invokestatic idx, 3)) (hR : f2 + 1 ≤ rm.frames ∧ 8 + (n + 11) + x2 ≤ rm.locals) (hn : as.length = na) (hw : ws = pre ++ (w0 ++ post)) (hst : st = as.reverse ++ rest) (hrm : (rest.map fun v => v.category).sum ≤ 8) (hroom : cells + mc ≤ rm.cells ∧ slots + ms ≤ rm.slots)
    (kk : ∀ (rv : Option Value) (w1 : va_W), P rv w1 → V K (cells + mc) (slots + ms) (pre ++ (w1 ++ post)) lv (rv.toList ++ rest) (pc + 3)) : V K cells slots ws lv st pc := by
  intro H locs ls hP hD hS hl
  have hR2 : kR K = rm := C.2.2.2.2.2.2.1
  rw [hw] at hP hD
  exact V_backN C hBA hP hD hS hl (va_runS (As := as) (rest := rest) ⟨C.1, C.2.1, C.2.2.2.2.2.1, C.2.2.2.1, C.2.2.1⟩ (ct H.size) ⟨ml.cb C.2.2.1 (by rw [hR2]; exact hR), C.2.2.1 _ hs⟩ ⟨fun a U gg mk q => pre_blind (l := kl K) a U gg mk q, fun U hU hW => pre_ok C hBA hE hP hD hS U hU hW⟩ rfl hn hl.1 hst (lv_room hrm) hd (by rw [hR2]; exact hroom)) kk
/-- a constructor -/
theorem V_callNi (C : KX K cc own rm g) (hBA : kA K = kB K) (hE : SBq (kD K) (kA K) (ks K) (ks K).heap) (ml : CLz own idx y b n none na) (hi : y.name = "<init>") (hs : Cond.instanceMethod y ∈ wU) {w0 pre post : va_W} {b0 : Nat} (ct : CtN (kl K) (kD K) g y b n none (rmN f2 x2 mc ms) w0 (.ref b0 :: as) P mc ms) (hd : decode cc pc = .ok (.invokespecial idx, 3)) (hR : f2 + 1 ≤ rm.frames ∧ 8 + (n + 11) + x2 ≤ rm.locals) (hn : as.length = na) (hw : ws = pre ++ (w0 ++ post)) (hst : st = as.reverse ++ .ref b0 :: rest) (hrm : (rest.map fun v => v.category).sum ≤ 8) (hroom : cells + mc ≤ rm.cells ∧ slots + ms ≤ rm.slots)
    (kk : ∀ (rv : Option Value) (w1 : va_W), P rv w1 → V K (cells + mc) (slots + ms) (pre ++ (w1 ++ post)) lv (rv.toList ++ rest) (pc + 3)) : V K cells slots ws lv st pc := by
  intro H locs ls hP hD hS hl
  have hR2 : kR K = rm := C.2.2.2.2.2.2.1
  rw [hw] at hP hD
  exact V_backN C hBA hP hD hS hl (va_runI (As := as) (rest := rest) ⟨C.1, C.2.1, C.2.2.2.2.2.1, C.2.2.2.1, C.2.2.1⟩ (ct H.size) ⟨ml.cb C.2.2.1 (by rw [hR2]; exact hR), hi, C.2.2.1 _ hs⟩ ⟨fun a U gg mk q => pre_blind (l := kl K) a U gg mk q, fun U hU hW => pre_ok C hBA hE hP hD hS U hU hW⟩ rfl hn hl.1 hst (lv_room hrm) hd (by rw [hR2]; exact hroom)) kk
end NEWCALLS
