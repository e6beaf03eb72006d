/-! ===== rows of floats, doubles, longs, tables; the script ===== -/
section LROWS
variable {p : Program} {l : Launch} {e : Env} {R : Room} {s : State} {m : MethodId} {args : Array Value} {below : List Frame} {meth : Method} {c : Code} {H : Heap} {locs : List Loc} {cells slots : Nat} {Q : State → Prop} {pc : Nat} {ls : Array Slot} {rest : List Value} {cc : ByteArray}
theorem lv_lcmpE (hexec : p.tables.exec = Jvm.exec) (hb : c.code = cc) {x : Int64} (hdg : decode cc pc = .ok (.lcmp, 1))
    (k : W p l e R s m args below meth c H locs cells slots Q (F0 m (pc + 1) ls (.int 0 :: rest))) : W p l e R s m args below meth c H locs cells slots Q (F0 m pc ls (.long x :: .long x :: rest)) := by
  intro T hT X
  obtain ⟨t, a, b⟩ := k T hT X
  refine ⟨t, ?_, b⟩
  jvm_step X.here [X.here.top, hexec, hb, hdg, Int64.lt_irrefl, gt_iff_lt, beq_self_eq_true]
  exact a
end LROWS
section FROWS
variable {K : KT} {cc : ByteArray} {own : String} {rm : Room} {g : G0} {cells slots : Nat} {ws ws' : va_W} {lv lv' : List (Nat × Value)} {st rest : List Value} {pc : Nat}
theorem V_lcmpE (C : KX K cc own rm g) {x : Int64} (pc' : Nat) (hd : decode cc pc = .ok (.lcmp, 1)) (hp : pc + 1 = pc') (kk : V K cells slots ws lv (.int 0 :: rest) pc') : V K cells slots ws lv (.long x :: .long x :: rest) pc := by
  subst hp
  intro H locs ls hP hD hS hl
  exact lv_lcmpE C.1 C.2.1 hd (kk H locs ls hP hD hS hl)
theorem V_i2d (C : KX K cc own rm g) {x : Int32} (pc' : Nat) (hd : decode cc pc = .ok (.i2d, 1)) (hp : pc + 1 = pc') (kk : V K cells slots ws lv (.double (FP.i2d x) :: rest) pc') : V K cells slots ws lv (.int x :: rest) pc := by
  subst hp
  intro H locs ls hP hD hS hl
  exact lv_i2d C.1 C.2.1 hd (kk H locs ls hP hD hS hl)
theorem V_ddiv (C : KX K cc own rm g) {x y : UInt64} (pc' : Nat) (hd : decode cc pc = .ok (.ddiv, 1)) (hp : pc + 1 = pc') (hne : vf_n64 (FP.ddiv x y)) (kk : V K cells slots ws lv (.double (FP.ddiv x y) :: rest) pc') : V K cells slots ws lv (.double y :: .double x :: rest) pc := by
  subst hp
  intro H locs ls hP hD hS hl
  exact lv_ddiv C.1 C.2.1 hd hne (kk H locs ls hP hD hS hl)
theorem V_i2f (C : KX K cc own rm g) {x : Int32} (pc' : Nat) (hd : decode cc pc = .ok (.i2f, 1)) (hp : pc + 1 = pc') (kk : V K cells slots ws lv (.float (FP.i2f x) :: rest) pc') : V K cells slots ws lv (.int x :: rest) pc := by
  subst hp
  intro H locs ls hP hD hS hl
  exact lv_i2f C.1 C.2.1 hd (kk H locs ls hP hD hS hl)
theorem V_fdiv (C : KX K cc own rm g) {x y : UInt32} (pc' : Nat) (hd : decode cc pc = .ok (.fdiv, 1)) (hp : pc + 1 = pc') (hne : vf_n32 (FP.fdiv x y)) (kk : V K cells slots ws lv (.float (FP.fdiv x y) :: rest) pc') : V K cells slots ws lv (.float y :: .float x :: rest) pc := by
  subst hp
  intro H locs ls hP hD hS hl
  exact lv_fdiv C.1 C.2.1 hd hne (kk H locs ls hP hD hS hl)
theorem V_f2d (C : KX K cc own rm g) {x : UInt32} (pc' : Nat) (hd : decode cc pc = .ok (.f2d, 1)) (hp : pc + 1 = pc') (hne : vf_n64 (FP.f2d x)) (kk : V K cells slots ws lv (.double (FP.f2d x) :: rest) pc') : V K cells slots ws lv (.float x :: rest) pc := by
  subst hp
  intro H locs ls hP hD hS hl
  exact lv_f2d C.1 C.2.1 hd hne (kk H locs ls hP hD hS hl)
theorem V_dcmp (C : KX K cc own rm g) {x y : UInt64} {op : CmpOp} {v : Int32} (pc' : Nat) (hd : decode cc pc = .ok (.dcmp op, 1)) (hp : pc + 1 = pc') (hv : Op.cmpValue (FP.dcmp x y) op = v) (kk : V K cells slots ws lv (.int v :: rest) pc') : V K cells slots ws lv (.double y :: .double x :: rest) pc := by
  subst hp
  subst hv
  intro H locs ls hP hD hS hl
  exact lv_dcmp C.1 C.2.1 hd (kk H locs ls hP hD hS hl)
theorem V_dconst0 (C : KX K cc own rm g) (pc' : Nat) (hd : decode cc pc = .ok (.dconst 0, 1)) (hp : pc + 1 = pc') (kk : V K cells slots ws lv (.double FP.dconst0 :: rest) pc') : V K cells slots ws lv rest pc := by
  subst hp
  intro H locs ls hP hD hS hl
  exact lv_dconst0 C.1 C.2.1 hd (kk H locs ls hP hD hS hl)
theorem V_fconst0 (C : KX K cc own rm g) (pc' : Nat) (hd : decode cc pc = .ok (.fconst 0, 1)) (hp : pc + 1 = pc') (kk : V K cells slots ws lv (.float FP.fconst0 :: rest) pc') : V K cells slots ws lv rest pc := by
  subst hp
  intro H locs ls hP hD hS hl
  exact lv_fconst0 C.1 C.2.1 hd (kk H locs ls hP hD hS hl)
theorem V_fstore (C : KX K cc own rm g) {i : Nat} {x : UInt32} (pc' : Nat) (lv' : List (Nat × Value)) (hd : decode cc pc = .ok (.fstore i, 2)) (hp : pc + 2 = pc') (hn : i < kn K) (hl' : (i, Value.float x) :: lv.filter (fun q => !(q.1 == i) && !(q.1 + 1 == i && q.2.category == 2)) = lv') (kk : V K cells slots ws lv' rest pc') : V K cells slots ws lv (.float x :: rest) pc := by
  subst hp
  intro H locs ls hP hD hS hl
  exact lv_fstore C.1 C.2.1 hd hl hn hl' (fun ls hl => kk H locs ls hP hD hS hl)
theorem V_dstore (C : KX K cc own rm g) {i : Nat} {x : UInt64} (pc' : Nat) (lv' : List (Nat × Value)) (hd : decode cc pc = .ok (.dstore i, 2)) (hp : pc + 2 = pc') (hn : i + 1 < kn K) (hl' : (i, Value.double x) :: lv.filter (fun q => !(q.1 == i) && (!(q.1 == i + 1) && !(q.1 + 1 == i && q.2.category == 2))) = lv') (kk : V K cells slots ws lv' rest pc') : V K cells slots ws lv (.double x :: rest) pc := by
  subst hp
  intro H locs ls hP hD hS hl
  exact lv_dstore C.1 C.2.1 hd hl hn hl' (fun ls hl => kk H locs ls hP hD hS hl)
theorem V_fload (C : KX K cc own rm g) {i : Nat} {x : UInt32} (k0 : Nat) (pc' : Nat) (hd : decode cc pc = .ok (.fload i, 2)) (hp : pc + 2 = pc') (hx : lv[k0]? = some (i, .float x)) (kk : V K cells slots ws lv (.float x :: st) pc') : V K cells slots ws lv st pc := by
  subst hp
  intro H locs ls hP hD hS hl
  exact lv_fload C.1 C.2.1 hd (lv_at hl k0 hx) (kk H locs ls hP hD hS hl)
theorem V_dload (C : KX K cc own rm g) {i : Nat} {x : UInt64} (k0 : Nat) (pc' : Nat) (hd : decode cc pc = .ok (.dload i, 2)) (hp : pc + 2 = pc') (hx : lv[k0]? = some (i, .double x)) (kk : V K cells slots ws lv (.double x :: st) pc') : V K cells slots ws lv st pc := by
  subst hp
  intro H locs ls hP hD hS hl
  exact lv_dload C.1 C.2.1 hd (lv_at hl k0 hx) (kk H locs ls hP hD hS hl)
theorem V_tblOut (C : KX K cc own rm g) {dflt lo hi : Int} {offs : Array Int} {len : Nat} {x : Int32} (tgt : Nat) (hd : decode cc pc = .ok (.tableswitch dflt lo hi offs, len)) (h : x.toInt < lo ∨ hi < x.toInt) (ht : (pc : Int) + dflt = (tgt : Int)) (kk : V K cells slots ws lv rest tgt) : V K cells slots ws lv (.int x :: rest) pc := by
  intro H locs ls hP hD hS hl
  exact lv_tableOut C.1 C.2.1 hd h ht (kk H locs ls hP hD hS hl)
theorem V_tblIn (C : KX K cc own rm g) {dflt lo hi : Int} {offs : Array Int} {len : Nat} {x : Int32} {off : Int} (tgt : Nat) (hd : decode cc pc = .ok (.tableswitch dflt lo hi offs, len)) (h1 : ¬ x.toInt < lo) (h2 : ¬ hi < x.toInt) (ho : offs[(x.toInt - lo).toNat]? = some off) (ht : (pc : Int) + off = (tgt : Int)) (kk : V K cells slots ws lv rest tgt) : V K cells slots ws lv (.int x :: rest) pc := by
  intro H locs ls hP hD hS hl
  exact lv_tableIn C.1 C.2.1 hd h1 h2 ho ht (kk H locs ls hP hD hS hl)
/-- the script: it lies outside of what is written -/
theorem V_sld (C : KX K cc own rm g) {b L : Nat} {xs : Nat → Int32} (hX : va_X b L xs (ks K) (ks K).heap) (hbl : b < (ks K).heap.size) (hbA : ¬ kA K b) {i : Int32} (pc' : Nat) (hd : decode cc pc = .ok (.iaload, 1)) (hp : pc + 1 = pc') (hin : inb i L = true) (kk : V K cells slots ws lv (.int (xs (cl i)) :: rest) pc') : V K cells slots ws lv (.int i :: .ref b :: rest) pc := by
  subst hp
  intro H locs ls hP hD hS hl
  exact va_sld C.1 C.2.1 hX hbl hbA hS (inb_t hin) hd (kk H locs ls hP hD hS hl)
theorem V_slen (C : KX K cc own rm g) {b L : Nat} {xs : Nat → Int32} (hX : va_X b L xs (ks K) (ks K).heap) (hbl : b < (ks K).heap.size) (hbA : ¬ kA K b) (pc' : Nat) (hd : decode cc pc = .ok (.arraylength, 1)) (hp : pc + 1 = pc') (kk : V K cells slots ws lv (.int (nI L) :: rest) pc') : V K cells slots ws lv (.ref b :: rest) pc := by
  subst hp
  intro H locs ls hP hD hS hl
  exact va_slen C.1 C.2.1 hX hbl hbA hS hd (kk H locs ls hP hD hS hl)
end FROWS

