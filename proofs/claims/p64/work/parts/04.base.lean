/-! the words, all in one list -/
def wU : List Cond := lw_tbl.filter goodWord
theorem mU (i : Nat) {w : Cond} (h : lw_tbl[i]? = some w) (hg : goodWord w = true) : w ∈ wU := List.mem_filter.mpr ⟨List.mem_of_getElem? h, hg⟩
theorem wU_good : ∀ w ∈ wU, (w.onTables && w.keeps) = true ∨ ∃ ty, w = .arrayClass ty := fun _ h => good_of_word (List.mem_filter.mp h).2
theorem wU_tbl : ∀ w ∈ wU, w ∈ lw_tbl := fun _ h => (List.mem_filter.mp h).1
def wM (y : MethodName) (b : ByteArray) (n : Nat) (r : Option FieldType) : List Cond := .code y b n r :: wU
theorem gU {ws : List Cond} (h : ∀ w ∈ ws, w ∈ wU) : GoodIn wU ws := fun w hw => ⟨h w hw, wU_good w (h w hw)⟩
theorem wM_in {y : MethodName} {b : ByteArray} {n : Nat} {r : Option FieldType} (h : Cond.code y b n r ∈ wU) : ∀ w ∈ wM y b n r, w ∈ wU := fun w hw => (List.mem_cons.mp hw).elim (fun e => by rw [e]; exact h) id
/-! what is guarded, what is bound -/
def gd {α : Type} (b : Bool) (x : Option α) : Option α := if b = true then x else none
theorem gd_some {α : Type} {b : Bool} {x : Option α} {r : α} (h : gd b x = some r) : b = true ∧ x = some r := by
  unfold gd at h
  split at h
  · rename_i q
    exact ⟨q, h⟩
  · cases h
theorem gd_t {α : Type} {b : Bool} {x : Option α} (h : b = true) : gd b x = x := by unfold gd; rw [if_pos h]
def bd {α β : Type} (x : Option α) (k : α → Option β) : Option β := match x with
  | some a => k a
  | none => none
theorem bd_some {α β : Type} {x : Option α} {k : α → Option β} {r : β} (h : bd x k = some r) : ∃ a, x = some a ∧ k a = some r := by
  cases x with
  | none => cases h
  | some a => exact ⟨a, rfl, h⟩
theorem bd_t {α β : Type} {x : Option α} {k : α → Option β} {a : α} (h : x = some a) : bd x k = k a := by rw [h]; rfl
/-- an index that is in range -/
def inb (i : Int32) (n : Nat) : Bool := decide (¬ (i < 0 ∨ n ≤ i.toNatClampNeg))
theorem inb_t {i : Int32} {n : Nat} (h : inb i n = true) : vp_in i n := by
  have h2 : ¬ (i < 0 ∨ n ≤ i.toNatClampNeg) := by
    unfold inb at h
    exact of_decide_eq_true h
  exact h2
theorem inb_of {i : Int32} {n : Nat} (h : vp_in i n) : inb i n = true := by
  have h2 : ¬ (i < 0 ∨ n ≤ i.toNatClampNeg) := h
  unfold inb
  exact decide_eq_true h2
def cl (i : Int32) : Nat := i.toNatClampNeg
/-- a truth value, a sign -/
def isz (r : Int32) : Bool := decide (r &&& 1 = r)
theorem isz_t {r : Int32} (h : isz r = true) : narrow .boolean (.int r) = .int r := congrArg Value.int (of_decide_eq_true h)
def isc (r : Int32) : Bool := decide (r.toUInt32.toUInt16.toUInt32.toInt32 = r)
theorem isc_t {r : Int32} (h : isc r = true) : narrow .char (.int r) = .int r := congrArg Value.int (of_decide_eq_true h)
/-! the classes of arrays: int, char, byte, long, double, Book -/
abbrev G0 : Type := ClassId × ClassId × ClassId × ClassId × ClassId × ClassId
abbrev TY (g : G0) : List (ClassId × FieldType) := [(g.1, .int), (g.2.1, .char), (g.2.2.1, .byte), (g.1, .int), (g.1, .int), (g.2.2.2.2.2, .object "BookmarkManager$Book")]
abbrev aI (g : G0) (n : Nat) (f : Nat → Int32) : va_E := .inl (g.1, n, .inl f)
abbrev aC (g : G0) (n : Nat) (f : Nat → Int32) : va_E := .inl (g.2.1, n, .inl f)
abbrev aB (g : G0) (n : Nat) (f : Nat → Int32) : va_E := .inl (g.2.2.1, n, .inl f)
abbrev aL (g : G0) (n : Nat) (f : Nat → Int64) : va_E := .inl (g.2.2.2.1, n, .inr (.inl f))
abbrev aD (g : G0) (n : Nat) (f : Nat → UInt64) : va_E := .inl (g.2.2.2.2.1, n, .inr (.inr (.inr (.inl f))))
abbrev aO (g : G0) (n : Nat) (f : Nat → Option Nat) : va_E := .inl (g.2.2.2.2.2, n, .inr (.inr (.inr (.inr f))))
/-! a walk's fixed things in one: p l e R s m args below meth c nL D A B Q -/
abbrev KT : Type := Program × Launch × Env × Room × State × MethodId × Array Value × List Frame × Method × Code × Nat × va_G × (Nat → Prop) × (Nat → Prop) × (State → Prop)
abbrev kp (K : KT) : Program := K.1
abbrev kl (K : KT) : Launch := K.2.1
abbrev ke (K : KT) : Env := K.2.2.1
abbrev kR (K : KT) : Room := K.2.2.2.1
abbrev ks (K : KT) : State := K.2.2.2.2.1
abbrev km (K : KT) : MethodId := K.2.2.2.2.2.1
abbrev ka (K : KT) : Array Value := K.2.2.2.2.2.2.1
abbrev kb (K : KT) : List Frame := K.2.2.2.2.2.2.2.1
abbrev kM (K : KT) : Method := K.2.2.2.2.2.2.2.2.1
abbrev kc (K : KT) : Code := K.2.2.2.2.2.2.2.2.2.1
abbrev kn (K : KT) : Nat := K.2.2.2.2.2.2.2.2.2.2.1
abbrev kD (K : KT) : va_G := K.2.2.2.2.2.2.2.2.2.2.2.1
abbrev kA (K : KT) : Nat → Prop := K.2.2.2.2.2.2.2.2.2.2.2.2.1
abbrev kB (K : KT) : Nat → Prop := K.2.2.2.2.2.2.2.2.2.2.2.2.2.1
abbrev kQ (K : KT) : State → Prop := K.2.2.2.2.2.2.2.2.2.2.2.2.2.2
/-- at pc, with these locals and this stack over this world, the machine comes to its end -/
def V (K : KT) (cells slots : Nat) (ws : va_W) (lv : List (Nat × Value)) (st : List Value) (pc : Nat) : Prop :=
  ∀ (H : Heap) (locs : List Loc) (ls : Array Slot), va_P (kD K) cl0 ws H → va_D (kB K) ws → va_S (kA K) (ks K).heap H locs → lv_has ls (kn K) lv → W (kp K) (kl K) (ke K) (kR K) (ks K) (km K) (ka K) (kb K) (kM K) (kc K) H locs cells slots (kQ K) (F0 (km K) pc ls st)
/-- .. with E thrown over it -/
def VX (K : KT) (cells slots : Nat) (ws : va_W) (lv : List (Nat × Value)) (E : String) (pc : Nat) : Prop :=
  ∀ (H : Heap) (locs : List Loc) (ls : Array Slot) (rest : List Value) (ce : Cell) (q : Addr), va_P (kD K) cl0 ws H → va_D (kB K) ws → va_S (kA K) (ks K).heap H locs → lv_has ls (kn K) lv → H[q]? = some ce → ce.vm = .none → (ks K).vm.findClass E = some ce.cls → vx_W (kp K) (kl K) (ke K) (kR K) (ks K) (km K) (ka K) (kb K) (kM K) (kc K) H locs cells slots (kQ K) (F0 (km K) pc ls rest) q
/-- what a walk knows -/
def KX (K : KT) (cc : ByteArray) (own : String) (rm : Room) (g : G0) : Prop :=
  (kp K).tables.exec = Jvm.exec ∧ (kc K).code = cc ∧ (∀ w ∈ wU, w.before (ka K) (ks K) = true) ∧ (ks K).vm.findClass own = some (km K).cls ∧ va_K (kD K) cl0 (TY g) (ks K) ∧ (kc K).maxLocals = kn K ∧ kR K = rm ∧ (∀ q, (ks K).heap.size ≤ q → kA K q) ∧ (∀ q, kB K q → kA K q ∨ ∀ a, kB K a)
section VROWS
variable {K : KT} {cc : ByteArray} {own : String} {rm : Room} {g : G0} {cells slots : Nat} {ws ws' : va_W} {lv lv' : List (Nat × Value)} {st rest : List Value} {pc : Nat}
theorem V_eq {ws2 : va_W} (h : ws = ws2) (k : V K cells slots ws2 lv st pc) : V K cells slots ws lv st pc := h ▸ k
theorem V_st {st2 : List Value} (h : st = st2) (k : V K cells slots ws lv st2 pc) : V K cells slots ws lv st pc := h ▸ k
/-- fewer locals, in another order -/
theorem V_lv (is : List Nat) (h : lv_pick lv is = lv') (k : V K cells slots ws lv' st pc) : V K cells slots ws lv st pc :=
  fun H locs ls hP hD hS hl => k H locs ls hP hD hS (lv_sub hl is h)
theorem V_iconst (C : KX K cc own rm g) {n : Int} (v : Int32) (pc' : Nat) (hd : decode cc pc = .ok (.iconst n, 1)) (hp : pc + 1 = pc') (hv : Int32.ofInt n = v) (kk : V K cells slots ws lv (.int v :: st) pc') : V K cells slots ws lv (st) pc := by
  subst hp
  intro H locs ls hP hD hS hl
  exact lv_iconst C.1 C.2.1 hd hv (kk H locs ls hP hD hS hl)
theorem V_bipush (C : KX K cc own rm g) {n : Int} (v : Int32) (pc' : Nat) (hd : decode cc pc = .ok (.bipush n, 2)) (hp : pc + 2 = pc') (hv : (Int8.ofInt n).toInt32 = v) (kk : V K cells slots ws lv (.int v :: st) pc') : V K cells slots ws lv (st) pc := by
  subst hp
  intro H locs ls hP hD hS hl
  exact lv_bipush C.1 C.2.1 hd hv (kk H locs ls hP hD hS hl)
theorem V_sipush (C : KX K cc own rm g) {n : Int} (v : Int32) (pc' : Nat) (hd : decode cc pc = .ok (.sipush n, 3)) (hp : pc + 3 = pc') (hv : (Int16.ofInt n).toInt32 = v) (kk : V K cells slots ws lv (.int v :: st) pc') : V K cells slots ws lv (st) pc := by
  subst hp
  intro H locs ls hP hD hS hl
  exact lv_sipush C.1 C.2.1 hd hv (kk H locs ls hP hD hS hl)
theorem V_iload_n (C : KX K cc own rm g) {k : Fin 4} {x : Int32} (k0 : Nat) (pc' : Nat) (hd : decode cc pc = .ok (.iload_n k, 1)) (hp : pc + 1 = pc') (hx : lv[k0]? = some ((k : Nat), .int x)) (kk : V K cells slots ws lv (.int x :: st) pc') : V K cells slots ws lv (st) pc := by
  subst hp
  intro H locs ls hP hD hS hl
  exact lv_iload_n C.1 C.2.1 hd rfl (lv_at hl k0 hx) (kk H locs ls hP hD hS hl)
theorem V_iload (C : KX K cc own rm g) {i : Nat} {x : Int32} (k0 : Nat) (pc' : Nat) (hd : decode cc pc = .ok (.iload i, 2)) (hp : pc + 2 = pc') (hx : lv[k0]? = some (i, .int x)) (kk : V K cells slots ws lv (.int x :: st) pc') : V K cells slots ws lv (st) pc := by
  subst hp
  intro H locs ls hP hD hS hl
  exact lv_iload C.1 C.2.1 hd (lv_at hl k0 hx) (kk H locs ls hP hD hS hl)
theorem V_aload_n (C : KX K cc own rm g) {k : Fin 4} {x : Nat} (k0 : Nat) (pc' : Nat) (hd : decode cc pc = .ok (.aload_n k, 1)) (hp : pc + 1 = pc') (hx : lv[k0]? = some ((k : Nat), .ref x)) (kk : V K cells slots ws lv (.ref x :: st) pc') : V K cells slots ws lv (st) pc := by
  subst hp
  intro H locs ls hP hD hS hl
  exact lv_aload_n C.1 C.2.1 hd rfl (lv_at hl k0 hx) (kk H locs ls hP hD hS hl)
theorem V_aload (C : KX K cc own rm g) {i : Nat} {x : Nat} (k0 : Nat) (pc' : Nat) (hd : decode cc pc = .ok (.aload i, 2)) (hp : pc + 2 = pc') (hx : lv[k0]? = some (i, .ref x)) (kk : V K cells slots ws lv (.ref x :: st) pc') : V K cells slots ws lv (st) pc := by
  subst hp
  intro H locs ls hP hD hS hl
  exact lv_aload C.1 C.2.1 hd (lv_at hl k0 hx) (kk H locs ls hP hD hS hl)
theorem V_dup (C : KX K cc own rm g) {va : Value} (pc' : Nat) (hd : decode cc pc = .ok (.dup, 1)) (hp : pc + 1 = pc') (hc : va.category = 1) (kk : V K cells slots ws lv (va :: va :: rest) pc') : V K cells slots ws lv (va :: rest) pc := by
  subst hp
  intro H locs ls hP hD hS hl
  exact lv_dup C.1 C.2.1 hd hc (kk H locs ls hP hD hS hl)
theorem V_pop (C : KX K cc own rm g) {va : Value} (pc' : Nat) (hd : decode cc pc = .ok (.pop, 1)) (hp : pc + 1 = pc') (hc : va.category = 1) (kk : V K cells slots ws lv (rest) pc') : V K cells slots ws lv (va :: rest) pc := by
  subst hp
  intro H locs ls hP hD hS hl
  exact lv_pop C.1 C.2.1 hd hc (kk H locs ls hP hD hS hl)
theorem V_dup_x1 (C : KX K cc own rm g) {va vb : Value} (pc' : Nat) (hd : decode cc pc = .ok (.dup_x1, 1)) (hp : pc + 1 = pc') (hc : va.category = 1) (hc2 : vb.category = 1) (kk : V K cells slots ws lv (va :: vb :: va :: rest) pc') : V K cells slots ws lv (va :: vb :: rest) pc := by
  subst hp
  intro H locs ls hP hD hS hl
  exact lv_dup_x1 C.1 C.2.1 hd hc hc2 (kk H locs ls hP hD hS hl)
theorem V_ineg (C : KX K cc own rm g) {x : Int32} (pc' : Nat) (hd : decode cc pc = .ok (.ineg, 1)) (hp : pc + 1 = pc')  (kk : V K cells slots ws lv (.int (-x) :: rest) pc') : V K cells slots ws lv (.int x :: rest) pc := by
  subst hp
  intro H locs ls hP hD hS hl
  exact lv_ineg C.1 C.2.1 hd (kk H locs ls hP hD hS hl)
theorem V_i2c (C : KX K cc own rm g) {x : Int32} (pc' : Nat) (hd : decode cc pc = .ok (.i2c, 1)) (hp : pc + 1 = pc')  (kk : V K cells slots ws lv (.int (x.toUInt32 % 65536).toInt32 :: rest) pc') : V K cells slots ws lv (.int x :: rest) pc := by
  subst hp
  intro H locs ls hP hD hS hl
  exact lv_i2c C.1 C.2.1 hd rfl (kk H locs ls hP hD hS hl)
theorem V_i2b (C : KX K cc own rm g) {x : Int32} (pc' : Nat) (hd : decode cc pc = .ok (.i2b, 1)) (hp : pc + 1 = pc')  (kk : V K cells slots ws lv (.int x.toInt8.toInt32 :: rest) pc') : V K cells slots ws lv (.int x :: rest) pc := by
  subst hp
  intro H locs ls hP hD hS hl
  exact lv_i2b C.1 C.2.1 hd rfl (kk H locs ls hP hD hS hl)
theorem V_i2l (C : KX K cc own rm g) {x : Int32} (pc' : Nat) (hd : decode cc pc = .ok (.i2l, 1)) (hp : pc + 1 = pc')  (kk : V K cells slots ws lv (.long x.toInt64 :: rest) pc') : V K cells slots ws lv (.int x :: rest) pc := by
  subst hp
  intro H locs ls hP hD hS hl
  exact lv_i2l C.1 C.2.1 hd rfl (kk H locs ls hP hD hS hl)
theorem V_lconst (C : KX K cc own rm g) {n : Fin 2} (v : Int64) (pc' : Nat) (hd : decode cc pc = .ok (.lconst n, 1)) (hp : pc + 1 = pc') (hv : Int64.ofNat (n : Nat) = v) (kk : V K cells slots ws lv (.long v :: st) pc') : V K cells slots ws lv (st) pc := by
  subst hp
  intro H locs ls hP hD hS hl
  exact lv_lconst C.1 C.2.1 hd hv (kk H locs ls hP hD hS hl)
theorem V_iadd (C : KX K cc own rm g) {x y : Int32} (pc' : Nat) (hd : decode cc pc = .ok (.iadd, 1)) (hp : pc + 1 = pc')  (kk : V K cells slots ws lv (.int (x + y) :: rest) pc') : V K cells slots ws lv (.int y :: .int x :: rest) pc := by
  subst hp
  intro H locs ls hP hD hS hl
  exact lv_iadd C.1 C.2.1 hd (kk H locs ls hP hD hS hl)
theorem V_isub (C : KX K cc own rm g) {x y : Int32} (pc' : Nat) (hd : decode cc pc = .ok (.isub, 1)) (hp : pc + 1 = pc')  (kk : V K cells slots ws lv (.int (x - y) :: rest) pc') : V K cells slots ws lv (.int y :: .int x :: rest) pc := by
  subst hp
  intro H locs ls hP hD hS hl
  exact lv_isub C.1 C.2.1 hd (kk H locs ls hP hD hS hl)
theorem V_imul (C : KX K cc own rm g) {x y : Int32} (pc' : Nat) (hd : decode cc pc = .ok (.imul, 1)) (hp : pc + 1 = pc')  (kk : V K cells slots ws lv (.int (x * y) :: rest) pc') : V K cells slots ws lv (.int y :: .int x :: rest) pc := by
  subst hp
  intro H locs ls hP hD hS hl
  exact lv_imul C.1 C.2.1 hd (kk H locs ls hP hD hS hl)
theorem V_iand (C : KX K cc own rm g) {x y : Int32} (pc' : Nat) (hd : decode cc pc = .ok (.iand, 1)) (hp : pc + 1 = pc')  (kk : V K cells slots ws lv (.int (x &&& y) :: rest) pc') : V K cells slots ws lv (.int y :: .int x :: rest) pc := by
  subst hp
  intro H locs ls hP hD hS hl
  exact lv_iand C.1 C.2.1 hd (kk H locs ls hP hD hS hl)
theorem V_idiv (C : KX K cc own rm g) {x y : Int32} (pc' : Nat) (hd : decode cc pc = .ok (.idiv, 1)) (hp : pc + 1 = pc') (hn : ¬ y = 0) (kk : V K cells slots ws lv (.int (x / y) :: rest) pc') : V K cells slots ws lv (.int y :: .int x :: rest) pc := by
  subst hp
  intro H locs ls hP hD hS hl
  exact lv_idiv C.1 C.2.1 hd hn (kk H locs ls hP hD hS hl)
theorem V_irem (C : KX K cc own rm g) {x y : Int32} (pc' : Nat) (hd : decode cc pc = .ok (.irem, 1)) (hp : pc + 1 = pc') (hn : ¬ y = 0) (kk : V K cells slots ws lv (.int (x - x / y * y) :: rest) pc') : V K cells slots ws lv (.int y :: .int x :: rest) pc := by
  subst hp
  intro H locs ls hP hD hS hl
  exact lv_irem C.1 C.2.1 hd hn (kk H locs ls hP hD hS hl)
theorem V_goto (C : KX K cc own rm g) {off : Int} (tgt : Nat) (hd : decode cc pc = .ok (.goto off, 3)) (ht : (pc : Int) + off = (tgt : Int)) (kk : V K cells slots ws lv st tgt) : V K cells slots ws lv st pc := by
  intro H locs ls hP hD hS hl
  exact lv_goto C.1 C.2.1 hd ht (kk H locs ls hP hD hS hl)
theorem V_istore_n (C : KX K cc own rm g) {k : Fin 4} {x : Int32} (pc' : Nat) (lv' : List (Nat × Value)) (hd : decode cc pc = .ok (.istore_n k, 1)) (hp : pc + 1 = pc') (hn : (k : Nat) < kn K) (hl' : ((k : Nat), Value.int x) :: lv.filter (fun q => !(q.1 == (k : Nat)) && !(q.1 + 1 == (k : Nat) && q.2.category == 2)) = lv') (kk : V K cells slots ws lv' rest pc') : V K cells slots ws lv (.int x :: rest) pc := by
  subst hp
  intro H locs ls hP hD hS hl
  exact lv_istore_n C.1 C.2.1 hd rfl hl hn hl' (fun ls hl => kk H locs ls hP hD hS hl)
theorem V_astore_n (C : KX K cc own rm g) {k : Fin 4} {x : Nat} (pc' : Nat) (lv' : List (Nat × Value)) (hd : decode cc pc = .ok (.astore_n k, 1)) (hp : pc + 1 = pc') (hn : (k : Nat) < kn K) (hl' : ((k : Nat), Value.ref x) :: lv.filter (fun q => !(q.1 == (k : Nat)) && !(q.1 + 1 == (k : Nat) && q.2.category == 2)) = lv') (kk : V K cells slots ws lv' rest pc') : V K cells slots ws lv (.ref x :: rest) pc := by
  subst hp
  intro H locs ls hP hD hS hl
  exact lv_astore_n C.1 C.2.1 hd rfl hl hn hl' (fun ls hl => kk H locs ls hP hD hS hl)
theorem V_istore (C : KX K cc own rm g) {i : Nat} {x : Int32} (pc' : Nat) (lv' : List (Nat × Value)) (hd : decode cc pc = .ok (.istore i, 2)) (hp : pc + 2 = pc') (hn : i < kn K) (hl' : (i, Value.int x) :: lv.filter (fun q => !(q.1 == i) && !(q.1 + 1 == i && q.2.category == 2)) = lv') (kk : V K cells slots ws lv' rest pc') : V K cells slots ws lv (.int x :: rest) pc := by
  subst hp
  intro H locs ls hP hD hS hl
  exact lv_istore C.1 C.2.1 hd hl hn hl' (fun ls hl => kk H locs ls hP hD hS hl)
theorem V_astore (C : KX K cc own rm g) {i : Nat} {x : Nat} (pc' : Nat) (lv' : List (Nat × Value)) (hd : decode cc pc = .ok (.astore i, 2)) (hp : pc + 2 = pc') (hn : i < kn K) (hl' : (i, Value.ref x) :: lv.filter (fun q => !(q.1 == i) && !(q.1 + 1 == i && q.2.category == 2)) = lv') (kk : V K cells slots ws lv' rest pc') : V K cells slots ws lv (.ref x :: rest) pc := by
  subst hp
  intro H locs ls hP hD hS hl
  exact lv_astore C.1 C.2.1 hd hl hn hl' (fun ls hl => kk H locs ls hP hD hS hl)
theorem V_iinc (C : KX K cc own rm g) {i : Nat} {n : Int} {x : Int32} (k0 : Nat) (v : Int32) (pc' : Nat) (lv' : List (Nat × Value)) (hd : decode cc pc = .ok (.iinc i n, 3)) (hp : pc + 3 = pc') (hx : lv[k0]? = some (i, .int x)) (hv : x + Int32.ofInt n = v) (hn : i < kn K) (hl' : (i, Value.int v) :: lv.filter (fun q => !(q.1 == i) && !(q.1 + 1 == i && q.2.category == 2)) = lv') (kk : V K cells slots ws lv' st pc') : V K cells slots ws lv st pc := by
  subst hp
  intro H locs ls hP hD hS hl
  exact lv_iinc C.1 C.2.1 hd hl hx hv hn hl' (fun ls hl => kk H locs ls hP hD hS hl)
theorem V_icmp_eq (C : KX K cc own rm g) {x y : Int32} {off : Int} (tgt pc' : Nat) (hd : decode cc pc = .ok (.if_icmp .eq off, 3)) (ht : (pc : Int) + off = (tgt : Int)) (hp : pc + 3 = pc') (kt : x = y → V K cells slots ws lv rest tgt) (kf : ¬ x = y → V K cells slots ws lv rest pc') : V K cells slots ws lv (.int y :: .int x :: rest) pc := by
  subst hp
  intro H locs ls hP hD hS hl
  exact lv_icmp_eq C.1 C.2.1 hd ht (fun h => kt h H locs ls hP hD hS hl) (fun h => kf h H locs ls hP hD hS hl)
theorem V_if_eq (C : KX K cc own rm g) {x : Int32} {off : Int} (tgt pc' : Nat) (hd : decode cc pc = .ok (.ifCond .eq off, 3)) (ht : (pc : Int) + off = (tgt : Int)) (hp : pc + 3 = pc') (kt : x = 0 → V K cells slots ws lv rest tgt) (kf : ¬ x = 0 → V K cells slots ws lv rest pc') : V K cells slots ws lv (.int x :: rest) pc := by
  subst hp
  intro H locs ls hP hD hS hl
  exact lv_if_eq C.1 C.2.1 hd ht (fun h => kt h H locs ls hP hD hS hl) (fun h => kf h H locs ls hP hD hS hl)
theorem V_icmp_ne (C : KX K cc own rm g) {x y : Int32} {off : Int} (tgt pc' : Nat) (hd : decode cc pc = .ok (.if_icmp .ne off, 3)) (ht : (pc : Int) + off = (tgt : Int)) (hp : pc + 3 = pc') (kt : ¬ x = y → V K cells slots ws lv rest tgt) (kf : x = y → V K cells slots ws lv rest pc') : V K cells slots ws lv (.int y :: .int x :: rest) pc := by
  subst hp
  intro H locs ls hP hD hS hl
  exact lv_icmp_ne C.1 C.2.1 hd ht (fun h => kt h H locs ls hP hD hS hl) (fun h => kf h H locs ls hP hD hS hl)
theorem V_if_ne (C : KX K cc own rm g) {x : Int32} {off : Int} (tgt pc' : Nat) (hd : decode cc pc = .ok (.ifCond .ne off, 3)) (ht : (pc : Int) + off = (tgt : Int)) (hp : pc + 3 = pc') (kt : ¬ x = 0 → V K cells slots ws lv rest tgt) (kf : x = 0 → V K cells slots ws lv rest pc') : V K cells slots ws lv (.int x :: rest) pc := by
  subst hp
  intro H locs ls hP hD hS hl
  exact lv_if_ne C.1 C.2.1 hd ht (fun h => kt h H locs ls hP hD hS hl) (fun h => kf h H locs ls hP hD hS hl)
theorem V_icmp_lt (C : KX K cc own rm g) {x y : Int32} {off : Int} (tgt pc' : Nat) (hd : decode cc pc = .ok (.if_icmp .lt off, 3)) (ht : (pc : Int) + off = (tgt : Int)) (hp : pc + 3 = pc') (kt : x < y → V K cells slots ws lv rest tgt) (kf : ¬ x < y → V K cells slots ws lv rest pc') : V K cells slots ws lv (.int y :: .int x :: rest) pc := by
  subst hp
  intro H locs ls hP hD hS hl
  exact lv_icmp_lt C.1 C.2.1 hd ht (fun h => kt h H locs ls hP hD hS hl) (fun h => kf h H locs ls hP hD hS hl)
theorem V_if_lt (C : KX K cc own rm g) {x : Int32} {off : Int} (tgt pc' : Nat) (hd : decode cc pc = .ok (.ifCond .lt off, 3)) (ht : (pc : Int) + off = (tgt : Int)) (hp : pc + 3 = pc') (kt : x < 0 → V K cells slots ws lv rest tgt) (kf : ¬ x < 0 → V K cells slots ws lv rest pc') : V K cells slots ws lv (.int x :: rest) pc := by
  subst hp
  intro H locs ls hP hD hS hl
  exact lv_if_lt C.1 C.2.1 hd ht (fun h => kt h H locs ls hP hD hS hl) (fun h => kf h H locs ls hP hD hS hl)
theorem V_icmp_ge (C : KX K cc own rm g) {x y : Int32} {off : Int} (tgt pc' : Nat) (hd : decode cc pc = .ok (.if_icmp .ge off, 3)) (ht : (pc : Int) + off = (tgt : Int)) (hp : pc + 3 = pc') (kt : y ≤ x → V K cells slots ws lv rest tgt) (kf : ¬ y ≤ x → V K cells slots ws lv rest pc') : V K cells slots ws lv (.int y :: .int x :: rest) pc := by
  subst hp
  intro H locs ls hP hD hS hl
  exact lv_icmp_ge C.1 C.2.1 hd ht (fun h => kt h H locs ls hP hD hS hl) (fun h => kf h H locs ls hP hD hS hl)
theorem V_if_ge (C : KX K cc own rm g) {x : Int32} {off : Int} (tgt pc' : Nat) (hd : decode cc pc = .ok (.ifCond .ge off, 3)) (ht : (pc : Int) + off = (tgt : Int)) (hp : pc + 3 = pc') (kt : 0 ≤ x → V K cells slots ws lv rest tgt) (kf : ¬ 0 ≤ x → V K cells slots ws lv rest pc') : V K cells slots ws lv (.int x :: rest) pc := by
  subst hp
  intro H locs ls hP hD hS hl
  exact lv_if_ge C.1 C.2.1 hd ht (fun h => kt h H locs ls hP hD hS hl) (fun h => kf h H locs ls hP hD hS hl)
theorem V_icmp_gt (C : KX K cc own rm g) {x y : Int32} {off : Int} (tgt pc' : Nat) (hd : decode cc pc = .ok (.if_icmp .gt off, 3)) (ht : (pc : Int) + off = (tgt : Int)) (hp : pc + 3 = pc') (kt : y < x → V K cells slots ws lv rest tgt) (kf : ¬ y < x → V K cells slots ws lv rest pc') : V K cells slots ws lv (.int y :: .int x :: rest) pc := by
  subst hp
  intro H locs ls hP hD hS hl
  exact lv_icmp_gt C.1 C.2.1 hd ht (fun h => kt h H locs ls hP hD hS hl) (fun h => kf h H locs ls hP hD hS hl)
theorem V_if_gt (C : KX K cc own rm g) {x : Int32} {off : Int} (tgt pc' : Nat) (hd : decode cc pc = .ok (.ifCond .gt off, 3)) (ht : (pc : Int) + off = (tgt : Int)) (hp : pc + 3 = pc') (kt : 0 < x → V K cells slots ws lv rest tgt) (kf : ¬ 0 < x → V K cells slots ws lv rest pc') : V K cells slots ws lv (.int x :: rest) pc := by
  subst hp
  intro H locs ls hP hD hS hl
  exact lv_if_gt C.1 C.2.1 hd ht (fun h => kt h H locs ls hP hD hS hl) (fun h => kf h H locs ls hP hD hS hl)
theorem V_icmp_le (C : KX K cc own rm g) {x y : Int32} {off : Int} (tgt pc' : Nat) (hd : decode cc pc = .ok (.if_icmp .le off, 3)) (ht : (pc : Int) + off = (tgt : Int)) (hp : pc + 3 = pc') (kt : x ≤ y → V K cells slots ws lv rest tgt) (kf : ¬ x ≤ y → V K cells slots ws lv rest pc') : V K cells slots ws lv (.int y :: .int x :: rest) pc := by
  subst hp
  intro H locs ls hP hD hS hl
  exact lv_icmp_le C.1 C.2.1 hd ht (fun h => kt h H locs ls hP hD hS hl) (fun h => kf h H locs ls hP hD hS hl)
theorem V_if_le (C : KX K cc own rm g) {x : Int32} {off : Int} (tgt pc' : Nat) (hd : decode cc pc = .ok (.ifCond .le off, 3)) (ht : (pc : Int) + off = (tgt : Int)) (hp : pc + 3 = pc') (kt : x ≤ 0 → V K cells slots ws lv rest tgt) (kf : ¬ x ≤ 0 → V K cells slots ws lv rest pc') : V K cells slots ws lv (.int x :: rest) pc := by
  subst hp
  intro H locs ls hP hD hS hl
  exact lv_if_le C.1 C.2.1 hd ht (fun h => kt h H locs ls hP hD hS hl) (fun h => kf h H locs ls hP hD hS hl)
end VROWS
