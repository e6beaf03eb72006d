abbrev rmF (f x : Nat) : Room := { frames := f, cells := 0, slots := 0, locals := x }
/-- a call of an instance method: its words -/
def CLv (own : String) (idx ci : Nat) (y : MethodName) (b : ByteArray) (n : Nat) (ret : Option FieldType) (na : Nat) : Prop :=
  (y.cls ≠ "java/lang/invoke/MethodHandle" ∧ y.cls ≠ "java/lang/invoke/VarHandle" ∧ (parseMethodDescriptor y.desc).map (fun d => d.parameters.length) = some na) ∧ (∀ w ∈ wsV own idx y.cls y (wM y b n ret), w ∈ wU) ∧ ∃ (T : u_T) (N : Nat), cl0[ci]? = some (y.cls, T, N)
theorem CLv.of {own : String} {idx ci : Nat} {y : MethodName} {b : ByteArray} {n : Nat} {ret : Option FieldType} {na : Nat} (T : u_T) (N : Nat) (h0 : y.cls ≠ "java/lang/invoke/MethodHandle" ∧ y.cls ≠ "java/lang/invoke/VarHandle" ∧ (parseMethodDescriptor y.desc).map (fun d => d.parameters.length) = some na) (hc : cl0[ci]? = some (y.cls, T, N)) (h1 : Cond.methodLink own idx y ∈ wU) (h2 : Cond.instanceMethod y ∈ wU) (h3 : Cond.selects y.cls y y ∈ wU) (h4 : Cond.initialized y.cls ∈ wU) (h5 : Cond.code y b n ret ∈ wU) : CLv own idx ci y b n ret na := by
  refine ⟨h0, fun w hw => ?_, T, N, hc⟩
  rcases List.mem_append.mp hw with h | h
  · rcases List.mem_cons.mp h with rfl | h
    · exact h1
    rcases List.mem_cons.mp h with rfl | h
    · exact h2
    rcases List.mem_cons.mp h with rfl | h
    · exact h3
    rcases List.mem_cons.mp h with rfl | h
    · exact h4
    · exact absurd h List.not_mem_nil
  · exact wM_in h5 w h
/-- a call of a static method of the same class -/
def CLs (own : String) (idx : Nat) (y : MethodName) (b : ByteArray) (n : Nat) (ret : Option FieldType) (na : Nat) : Prop :=
  (y.cls = own ∧ y.cls ≠ "java/lang/invoke/MethodHandle" ∧ y.cls ≠ "java/lang/invoke/VarHandle" ∧ (parseMethodDescriptor y.desc).map (fun d => d.parameters.length) = some na) ∧ ∀ w ∈ wsS own idx y (wM y b n ret), w ∈ wU
theorem CLs.of {own : String} {idx : Nat} {y : MethodName} {b : ByteArray} {n : Nat} {ret : Option FieldType} {na : Nat} (h0 : y.cls = own ∧ y.cls ≠ "java/lang/invoke/MethodHandle" ∧ y.cls ≠ "java/lang/invoke/VarHandle" ∧ (parseMethodDescriptor y.desc).map (fun d => d.parameters.length) = some na) (h1 : Cond.methodLink own idx y ∈ wU) (h2 : Cond.static y ∈ wU) (h4 : Cond.initialized own ∈ wU) (h5 : Cond.code y b n ret ∈ wU) : CLs own idx y b n ret na := by
  refine ⟨h0, fun w hw => ?_⟩
  rcases List.mem_append.mp hw with h | h
  · rcases List.mem_cons.mp h with rfl | h
    · exact h1
    rcases List.mem_cons.mp h with rfl | h
    · exact h2
    rcases List.mem_cons.mp h with rfl | h
    · exact h4
    · exact absurd h List.not_mem_nil
  · exact wM_in h5 w h
section VCALLS
variable {K : KT} {cc : ByteArray} {own : String} {g : G0} {cells slots : Nat} {ws ws' : va_W} {lv lv' : List (Nat × Value)} {st rest : List Value} {pc : Nat}
variable {rm : Room} {f2 x2 n na idx ci : Nat} {y : MethodName} {b : ByteArray} {ret : Option FieldType} {as : List Value} {rv : Option Value} {st' : List Value}
/-- what stands behind a call that writes nothing old -/
theorem V_backP (C : KX K cc own rm g) {ls : Array Slot} {H : Heap} {locs : List Loc} {a : Array Value} (hP : va_P (kD K) cl0 ws H) (hD : va_D (kB K) ws) (hS : va_S (kA K) (ks K).heap H locs) (hl : lv_has ls (kn K) lv) (hst : rv.toList ++ rest = st')
    (hr : va_Run (kp K) (kl K) (ke K) (kR K) (ks K) (km K) (ka K) (kb K) (kM K) (kc K) H locs cells slots 0 0 (F0 (km K) pc ls st) rest (QP rv a) (fun _ => False))
    (kk : V K cells slots ws lv st' (pc + 3)) : W (kp K) (kl K) (ke K) (kR K) (ks K) (km K) (ka K) (kb K) (kM K) (kc K) H locs cells slots (kQ K) (F0 (km K) pc ls st) := by
  subst hst
  intro T hT X
  obtain ⟨v, st₀, t, T', L, h0, X', hL, e1, e2, ⟨hv, hz, hk⟩, stp⟩ := hr T hT X
  cases hv
  rw [h0] at hz hk
  have hold : ∀ q : Nat, q < H.size → T'.heap[q]? = H[q]? := fun q hq => by rw [e1]; exact hk q hq (Nat.not_le.mpr hq)
  obtain ⟨t2, a1, b1⟩ := kk T'.heap (locs ++ L) ls (hP.kept fun k q hq => hold q.1 (hP k q hq).lt) hD
    ⟨Nat.le_trans hS.1 (by rw [e1]; exact hz), fun q h1 h2 => by rw [hold q (Nat.lt_of_lt_of_le h1 hS.1)]; exact hS.2.1 q h1 h2, fun q hq => by
      rcases List.mem_append.mp hq with h | h
      · exact hS.2.2 q h
      · exact (hL q h).elim⟩ hl T' rfl X'
  exact ⟨t2, stp t2 a1, b1⟩
/-- what stands behind a call that changes the middle of the world -/
theorem V_backS (C : KX K cc own rm g) (hBA : kA K = kB K) {ls : Array Slot} {H : Heap} {locs : List Loc} {a : Array Value} {pre w0 w1 post : va_W} (hP : va_P (kD K) cl0 (pre ++ (w0 ++ post)) H) (hD : va_D (kB K) (pre ++ (w0 ++ post))) (hS : va_S (kA K) (ks K).heap H locs) (hl : lv_has ls (kn K) lv) (hst : rv.toList ++ rest = st') (e : w1.map Prod.fst = w0.map Prod.fst)
    (hr : va_Run (kp K) (kl K) (ke K) (kR K) (ks K) (km K) (ka K) (kb K) (kM K) (kc K) H locs cells slots 0 0 (F0 (km K) pc ls st) rest (QS (kD K) rv w0 w1 H.size a) (va_A w0 H.size))
    (kk : V K cells slots (pre ++ (w1 ++ post)) lv st' (pc + 3)) : W (kp K) (kl K) (ke K) (kR K) (ks K) (km K) (ka K) (kb K) (kM K) (kc K) H locs cells slots (kQ K) (F0 (km K) pc ls st) := by
  subst hst
  intro T hT X
  obtain ⟨v, st₀, t, T', L, h0, X', hL, e1, e2, ⟨hv, hw, hz, hk⟩, stp⟩ := hr T hT X
  cases hv
  rw [h0] at hz hk
  have hold : ∀ q : Nat, q < H.size → ¬ va_A w0 H.size q → T'.heap[q]? = H[q]? := fun q hq h => by rw [e1]; exact hk q hq h
  have hin : ∀ q, va_A w0 H.size q → kA K q := by
    rintro q (⟨k, e, h⟩ | h)
    · rw [hBA]
      exact hD.rt.lf.2 k _ h
    · exact C.2.2.2.2.2.2.2.1 q (Nat.le_trans hS.1 h)
  obtain ⟨hP2, hD2⟩ := va_mid hP hD e (by rw [e1]; exact hw) hold
  obtain ⟨t2, a1, b1⟩ := kk T'.heap (locs ++ L) ls hP2 hD2
    ⟨Nat.le_trans hS.1 (by rw [e1]; exact hz), fun q h1 h2 => by rw [hold q (Nat.lt_of_lt_of_le h1 hS.1) (fun z => h2 (hin q z))]; exact hS.2.1 q h1 h2, fun q hq => by
      rcases List.mem_append.mp hq with h | h
      · exact hS.2.2 q h
      · exact hin _ (hL q h)⟩ hl T' rfl X'
  exact ⟨t2, stp t2 a1, b1⟩
theorem V_callP (C : KX K cc own rm g) (ml : CLv own idx ci y b n ret na) {w pre post : va_W} {b0 : Nat} {fs : List Value} (ct : CtP (kl K) (kD K) g y b n ret (rmF f2 x2) w (.ref b0 :: as) rv) (q0 pc' : Nat) (hd : decode cc pc = .ok (.invokevirtual idx, 3)) (hp : pc + 3 = pc') (hR : f2 + 1 ≤ rm.frames ∧ 8 + (n + 11) + x2 ≤ rm.locals) (hn : as.length = na) (hw : ws = pre ++ (w ++ post)) (hq0 : ws[q0]? = some (b0, .inr (ci, fs))) (hst : st = as.reverse ++ .ref b0 :: rest) (hst' : rv.toList ++ rest = st') (hrm : (rest.map fun v => v.category).sum ≤ 8) (hroom : cells ≤ (kR K).cells ∧ slots ≤ (kR K).slots) (kk : V K cells slots ws lv st' pc') : V K cells slots ws lv st pc := by
  subst hp
  obtain ⟨h0, hG, T0, N0, hcl⟩ := ml
  intro H locs ls hP hD hS hl
  have hR2 : kR K = rm := C.2.2.2.2.2.2.1
  have hPw : va_P (kD K) cl0 w H := by rw [hw] at hP; exact hP.rt.lf
  have hDw : va_D (fun _ => True) w := by rw [hw] at hD; exact hD.rt.lf.weaken fun _ _ _ _ => trivial
  refine V_backP C hP hD hS hl hst' (va_runV (As := as) (rest := rest) ⟨C.1, C.2.1, C.2.2.2.2.2.1, C.2.2.2.1, C.2.2.1⟩ ct (cwV na C.2.2.1 (gU hG) rfl rfl rfl ⟨rfl, h0⟩ (by rw [hR2]; exact hR)) ⟨fun a U g mk q => ?_, va_recv C.2.2.2.2.1 hP hcl hq0, fun U hU hW => ⟨rfl, by rw [hU]; exact hPw, va_K.moved hW.alike C.2.2.2.2.1, hDw⟩⟩ rfl hn hl.1 hst (lv_room hrm) hd hroom) kk
  obtain ⟨q0, qP, qK, qD⟩ := q
  exact ⟨q0, qP, va_K.moved (u := U) (U := U.calling g mk a) (Vm.Alike.refl U.vm) qK, qD⟩
theorem V_callS (C : KX K cc own rm g) (hBA : kA K = kB K) (ml : CLv own idx ci y b n ret na) {w0 w1 pre post : va_W} {b0 : Nat} {fs : List Value} (ct : CtS (kl K) (kD K) g y b n ret (rmF f2 x2) w0 (.ref b0 :: as) rv w1) (q0 pc' : Nat) (ws' : va_W) (hd : decode cc pc = .ok (.invokevirtual idx, 3)) (hp : pc + 3 = pc') (hR : f2 + 1 ≤ rm.frames ∧ 8 + (n + 11) + x2 ≤ rm.locals) (hn : as.length = na) (hw : ws = pre ++ (w0 ++ post)) (hw' : pre ++ (w1 ++ post) = ws') (e : w1.map Prod.fst = w0.map Prod.fst) (hq0 : ws[q0]? = some (b0, .inr (ci, fs))) (hst : st = as.reverse ++ .ref b0 :: rest) (hst' : rv.toList ++ rest = st') (hrm : (rest.map fun v => v.category).sum ≤ 8) (hroom : cells ≤ (kR K).cells ∧ slots ≤ (kR K).slots) (kk : V K cells slots ws' lv st' pc') : V K cells slots ws lv st pc := by
  subst hp
  subst hw'
  obtain ⟨h0, hG, T0, N0, hcl⟩ := ml
  intro H locs ls hP hD hS hl
  have hR2 : kR K = rm := C.2.2.2.2.2.2.1
  have hrecv := va_recv C.2.2.2.2.1 hP hcl hq0
  rw [hw] at hP hD
  refine V_backS C hBA hP hD hS hl hst' e (va_runV (As := as) (rest := rest) ⟨C.1, C.2.1, C.2.2.2.2.2.1, C.2.2.2.1, C.2.2.1⟩ (ct H.size) (cwV na C.2.2.1 (gU hG) rfl rfl rfl ⟨rfl, h0⟩ (by rw [hR2]; exact hR)) ⟨fun a U g mk q => ?_, hrecv, fun U hU hW => ⟨rfl, by rw [hU], by rw [hU]; exact hP.rt.lf, va_K.moved hW.alike C.2.2.2.2.1, hD.rt.lf.weaken fun _ _ _ _ => trivial⟩⟩ rfl hn hl.1 hst (lv_room hrm) hd hroom) kk
  obtain ⟨q0, qz, qP, qK, qD⟩ := q
  exact ⟨q0, qz, qP, va_K.moved (u := U) (U := U.calling g mk a) (Vm.Alike.refl U.vm) qK, qD⟩
theorem V_callPs (C : KX K cc own rm g) (ml : CLs own idx y b n ret na) {w pre post : va_W} (ct : CtP (kl K) (kD K) g y b n ret (rmF f2 x2) w as rv) (pc' : Nat) (hd : decode cc pc = .ok (.invokestatic idx, 3)) (hp : pc + 3 = pc') (hR : f2 + 1 ≤ rm.frames ∧ 8 + (n + 11) + x2 ≤ rm.locals) (hn : as.length = na) (hw : ws = pre ++ (w ++ post)) (hst : st = as.reverse ++ rest) (hst' : rv.toList ++ rest = st') (hrm : (rest.map fun v => v.category).sum ≤ 8) (hroom : cells ≤ (kR K).cells ∧ slots ≤ (kR K).slots) (kk : V K cells slots ws lv st' pc') : V K cells slots ws lv st pc := by
  subst hp
  obtain ⟨h0, hG⟩ := ml
  intro H locs ls hP hD hS hl
  have hR2 : kR K = rm := C.2.2.2.2.2.2.1
  have hPw : va_P (kD K) cl0 w H := by rw [hw] at hP; exact hP.rt.lf
  have hDw : va_D (fun _ => True) w := by rw [hw] at hD; exact hD.rt.lf.weaken fun _ _ _ _ => trivial
  refine V_backP C hP hD hS hl hst' (va_runS (As := as) (rest := rest) ⟨C.1, C.2.1, C.2.2.2.2.2.1, C.2.2.2.1, C.2.2.1⟩ ct (cwS na C.2.2.1 (gU hG) rfl rfl rfl h0 (by rw [hR2]; exact hR)) ⟨fun a U g mk q => ?_, fun U hU hW => ⟨rfl, by rw [hU]; exact hPw, va_K.moved hW.alike C.2.2.2.2.1, hDw⟩⟩ rfl hn hl.1 hst (lv_room hrm) hd hroom) kk
  obtain ⟨q0, qP, qK, qD⟩ := q
  exact ⟨q0, qP, va_K.moved (u := U) (U := U.calling g mk a) (Vm.Alike.refl U.vm) qK, qD⟩
end VCALLS
/-- where a table leads -/
def tsTgt (pc : Nat) (dflt lo hi : Int) (offs : Array Int) (x : Int) : Int := if x < lo ∨ hi < x then (pc : Int) + dflt else (pc : Int) + (offs[(x - lo).toNat]?).getD dflt
theorem tsTgt_def {pc : Nat} {dflt lo hi : Int} {offs : Array Int} {x : Int} (labs : List Int) (hchk : (List.range offs.size).all (fun j => decide (offs[j]? = some dflt) || decide (lo + (j : Int) ∈ labs)) = true) (hx : ∀ c ∈ labs, ¬ x = c) : tsTgt pc dflt lo hi offs x = (pc : Int) + dflt := by
  unfold tsTgt
  split
  · rfl
  · rename_i h
    have h1 : ¬ x < lo := fun z => h (Or.inl z)
    cases hj : offs[(x - lo).toNat]? with
    | none => rfl
    | some o =>
      have hlt : (x - lo).toNat < offs.size := (Array.getElem?_eq_some_iff.mp hj).1
      have h2 := List.all_eq_true.mp hchk _ (List.mem_range.mpr hlt)
      rcases Bool.or_eq_true _ _ ▸ h2 with h3 | h3
      · rw [of_decide_eq_true h3] at hj
        cases hj
        rfl
      · have h4 := of_decide_eq_true h3
        have h5 : lo + ((x - lo).toNat : Int) = x := by omega
        rw [h5] at h4
        exact absurd rfl (hx x h4)
section VSW
variable {K : KT} {cc : ByteArray} {own : String} {rm : Room} {g : G0} {cells slots : Nat} {ws : va_W} {lv : List (Nat × Value)} {st rest : List Value} {pc : Nat}
theorem V_dup2 (C : KX K cc own rm g) {va vb : Value} (pc' : Nat) (hd : decode cc pc = .ok (.dup2, 1)) (hp : pc + 1 = pc') (hc : va.category = 1) (hc2 : vb.category = 1) (kk : V K cells slots ws lv (va :: vb :: va :: vb :: rest) pc') : V K cells slots ws lv (va :: vb :: rest) pc := by
  subst hp
  intro H locs ls hP hD hS hl
  exact lv_dup2_11 C.1 C.2.1 hd hc hc2 (kk H locs ls hP hD hS hl)
theorem V_tsw (C : KX K cc own rm g) {dflt lo hi : Int} {offs : Array Int} {len : Nat} {x : Int32} {z : Int} (tgt : Nat) (hd : decode cc pc = .ok (.tableswitch dflt lo hi offs, len)) (ht : tsTgt pc dflt lo hi offs x.toInt = z) (hz : z = (tgt : Int)) (hsz : (hi - lo).toNat < offs.size := by decide) (kk : V K cells slots ws lv rest tgt) : V K cells slots ws lv (.int x :: rest) pc := by
  subst hz
  intro H locs ls hP hD hS hl
  unfold tsTgt at ht
  split at ht
  · rename_i h
    exact lv_tableOut C.1 C.2.1 hd h ht (kk H locs ls hP hD hS hl)
  · rename_i h
    have h1 : ¬ x.toInt < lo := fun z => h (Or.inl z)
    have h2 : ¬ hi < x.toInt := fun z => h (Or.inr z)
    have hlt : (x.toInt - lo).toNat < offs.size := by omega
    have ho : offs[(x.toInt - lo).toNat]? = some offs[(x.toInt - lo).toNat] := Array.getElem?_eq_getElem hlt
    rw [ho] at ht
    exact lv_tableIn C.1 C.2.1 hd h1 h2 ho ht (kk H locs ls hP hD hS hl)
theorem V_lsw (C : KX K cc own rm g) {dflt : Int} {ps : Array (Int × Int)} {len : Nat} {x : Int32} {off : Int} (tgt : Nat) (hd : decode cc pc = .ok (.lookupswitch dflt ps, len)) (ho : Op.lookupswitch.offset ps.toList dflt x.toInt = off) (ht : (pc : Int) + off = (tgt : Int)) (hp : (ps.toList.zip (ps.toList.drop 1)).all (fun (a, next) => a.1 < next.1) = true := by decide) (kk : V K cells slots ws lv rest tgt) : V K cells slots ws lv (.int x :: rest) pc := by
  intro H locs ls hP hD hS hl
  exact lv_lookup C.1 C.2.1 hd hp ho ht (kk H locs ls hP hD hS hl)
end VSW
