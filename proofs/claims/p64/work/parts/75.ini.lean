/-! ===== constructors ===== -/
def FQ (own : String) (ci k : Nat) (ty : FieldType) : Prop := ∃ (C0 : String) (T : u_T) (N : Nat) (ty0 : Nat → FieldType), cl0[ci]? = some (C0, T, N) ∧ (∀ k, k < N → parseFieldDescriptor (T k).2.2.1 = some (ty0 k)) ∧ (∀ a, a < N → ∀ b, b < N → a ≠ b → (T a).2.1 ≠ (T b).2.1) ∧ parseFieldDescriptor (T k).2.2.1 = some ty ∧ (T k).2.2.2 = true ∧ (T k).1 = own
abbrev cX0_init : ByteArray := prog_2_method_1_code
def yX0_init : MethodName := ⟨RX0, "<init>", "()V"⟩
theorem dX0_init_0 : decode cX0_init 0 = .ok (.aload_n 0, 1) := by decide +kernel
theorem dX0_init_1 : decode cX0_init 1 = .ok (.invokespecial 3, 3) := by decide +kernel
theorem dX0_init_4 : decode cX0_init 4 = .ok (.aload_n 0, 1) := by decide +kernel
theorem dX0_init_5 : decode cX0_init 5 = .ok (.bipush 12, 2) := by decide +kernel
theorem dX0_init_7 : decode cX0_init 7 = .ok (.newarray .int, 2) := by decide +kernel
theorem dX0_init_9 : decode cX0_init 9 = .ok (.putfield 9, 3) := by decide +kernel
theorem dX0_init_12 : decode cX0_init 12 = .ok (.aload_n 0, 1) := by decide +kernel
theorem dX0_init_13 : decode cX0_init 13 = .ok (.bipush 12, 2) := by decide +kernel
theorem dX0_init_15 : decode cX0_init 15 = .ok (.newarray .int, 2) := by decide +kernel
theorem dX0_init_17 : decode cX0_init 17 = .ok (.putfield 15, 3) := by decide +kernel
theorem dX0_init_20 : decode cX0_init 20 = .ok (.aload_n 0, 1) := by decide +kernel
theorem dX0_init_21 : decode cX0_init 21 = .ok (.bipush 12, 2) := by decide +kernel
theorem dX0_init_23 : decode cX0_init 23 = .ok (.newarray .int, 2) := by decide +kernel
theorem dX0_init_25 : decode cX0_init 25 = .ok (.putfield 18, 3) := by decide +kernel
theorem dX0_init_28 : decode cX0_init 28 = .ok (.aload_n 0, 1) := by decide +kernel
theorem dX0_init_29 : decode cX0_init 29 = .ok (.bipush 12, 2) := by decide +kernel
theorem dX0_init_31 : decode cX0_init 31 = .ok (.newarray .int, 2) := by decide +kernel
theorem dX0_init_33 : decode cX0_init 33 = .ok (.putfield 21, 3) := by decide +kernel
theorem dX0_init_36 : decode cX0_init 36 = .ok (.aload_n 0, 1) := by decide +kernel
theorem dX0_init_37 : decode cX0_init 37 = .ok (.bipush 12, 2) := by decide +kernel
theorem dX0_init_39 : decode cX0_init 39 = .ok (.newarray .int, 2) := by decide +kernel
theorem dX0_init_41 : decode cX0_init 41 = .ok (.putfield 24, 3) := by decide +kernel
theorem dX0_init_44 : decode cX0_init 44 = .ok (.aload_n 0, 1) := by decide +kernel
theorem dX0_init_45 : decode cX0_init 45 = .ok (.bipush 8, 2) := by decide +kernel
theorem dX0_init_47 : decode cX0_init 47 = .ok (.newarray .int, 2) := by decide +kernel
theorem dX0_init_49 : decode cX0_init 49 = .ok (.putfield 27, 3) := by decide +kernel
theorem dX0_init_52 : decode cX0_init 52 = .ok (.aload_n 0, 1) := by decide +kernel
theorem dX0_init_53 : decode cX0_init 53 = .ok (.iconst 0, 1) := by decide +kernel
theorem dX0_init_54 : decode cX0_init 54 = .ok (.putfield 30, 3) := by decide +kernel
theorem dX0_init_57 : decode cX0_init 57 = .ok (.aload_n 0, 1) := by decide +kernel
theorem dX0_init_58 : decode cX0_init 58 = .ok (.iconst 1, 1) := by decide +kernel
theorem dX0_init_59 : decode cX0_init 59 = .ok (.putfield 34, 3) := by decide +kernel
theorem dX0_init_62 : decode cX0_init 62 = .ok (.aload_n 0, 1) := by decide +kernel
theorem dX0_init_63 : decode cX0_init 63 = .ok (.iconst 0, 1) := by decide +kernel
theorem dX0_init_64 : decode cX0_init 64 = .ok (.putfield 37, 3) := by decide +kernel
theorem dX0_init_67 : decode cX0_init 67 = .ok (.aload_n 0, 1) := by decide +kernel
theorem dX0_init_68 : decode cX0_init 68 = .ok (.iconst 0, 1) := by decide +kernel
theorem dX0_init_69 : decode cX0_init 69 = .ok (.putfield 40, 3) := by decide +kernel
theorem dX0_init_72 : decode cX0_init 72 = .ok (.aload_n 0, 1) := by decide +kernel
theorem dX0_init_73 : decode cX0_init 73 = .ok (.iconst 0, 1) := by decide +kernel
theorem dX0_init_74 : decode cX0_init 74 = .ok (.putfield 43, 3) := by decide +kernel
theorem dX0_init_77 : decode cX0_init 77 = .ok (.aload_n 0, 1) := by decide +kernel
theorem dX0_init_78 : decode cX0_init 78 = .ok (.iconst 0, 1) := by decide +kernel
theorem dX0_init_79 : decode cX0_init 79 = .ok (.putfield 46, 3) := by decide +kernel
theorem dX0_init_82 : decode cX0_init 82 = .ok (.aload_n 0, 1) := by decide +kernel
theorem dX0_init_83 : decode cX0_init 83 = .ok (.iconst 0, 1) := by decide +kernel
theorem dX0_init_84 : decode cX0_init 84 = .ok (.putfield 49, 3) := by decide +kernel
theorem dX0_init_87 : decode cX0_init 87 = .ok (.return_, 1) := by decide +kernel
theorem q97 : Cond.methodLink "BookmarkManager$Book" 3 (⟨"java/lang/Object", "<init>", "()V"⟩ : MethodName) ∈ wU := mU 52 (by decide +kernel) (by decide +kernel)
theorem q90 : Cond.instanceMethod (⟨"java/lang/Object", "<init>", "()V"⟩ : MethodName) ∈ wU := mU 45 (by decide +kernel) (by decide +kernel)
theorem q91 : Cond.code (⟨"java/lang/Object", "<init>", "()V"⟩ : MethodName) object_method_1_code 1 none ∈ wU := mU 46 (by decide +kernel) (by decide +kernel)
theorem q150 : Cond.arrayClass .int ∈ wU := mU 104 (by decide +kernel) (by decide +kernel)
theorem fq_X0_0 : FQ RX0 0 0 (.array .int) := ⟨RX0, TX0, 13, tyX0, rfl, tyX0_ok, nmX0, by decide +kernel, rfl, rfl⟩
theorem fq_X0_1 : FQ RX0 0 1 (.array .int) := ⟨RX0, TX0, 13, tyX0, rfl, tyX0_ok, nmX0, by decide +kernel, rfl, rfl⟩
theorem fq_X0_2 : FQ RX0 0 2 (.array .int) := ⟨RX0, TX0, 13, tyX0, rfl, tyX0_ok, nmX0, by decide +kernel, rfl, rfl⟩
theorem fq_X0_3 : FQ RX0 0 3 (.array .int) := ⟨RX0, TX0, 13, tyX0, rfl, tyX0_ok, nmX0, by decide +kernel, rfl, rfl⟩
theorem fq_X0_4 : FQ RX0 0 4 (.array .int) := ⟨RX0, TX0, 13, tyX0, rfl, tyX0_ok, nmX0, by decide +kernel, rfl, rfl⟩
theorem fq_X0_5 : FQ RX0 0 5 (.array .int) := ⟨RX0, TX0, 13, tyX0, rfl, tyX0_ok, nmX0, by decide +kernel, rfl, rfl⟩
theorem CtN.ofI {l : Launch} {D : va_G} {g : G0} {y : MethodName} {b : ByteArray} {n : Nat} {ret : Option FieldType} {rm : Room} {w0 : va_W} {av : List Value} {P : Option Value → va_W → Prop} {mc ms : Nat} (hy : plainName y.cls = true) (hav : (lg_sl av).length ≤ n)
    (body : ∀ K : KT, KX K b y.cls rm g → KN K P w0 ret mc ms → kA K = kB K → l = kl K → D = kD K → kn K = n → (kM K).name = y.name → V K 0 0 w0 (lv_args 0 av) [] 0) : CtN l D g y b n ret rm w0 av P mc ms := by
  intro sz
  refine Met.ofW (cc := b) (maxL := n) (ret := ret) hy rfl ?_
  intro p e s m args below meth c s₁ BL hml hv
  obtain ⟨rfl, hsz, hP, hK, hD, hE⟩ := hv
  subst hsz
  have hts : ∀ w ∈ wU, w.before av.toArray s = true := fun w h => atoms_spec (ws := wM y b n ret) BL.pre w (List.mem_cons_of_mem _ h)
  have hown : s.vm.findClass y.cls = some m.cls := findClass_of_methodNamed BL.named
  rw [lg_entry_eq]
  have hl := lv_entry av (n := n) hav
  exact body (p, l, e, rm, s, m, av.toArray, below, meth, c, n, D, va_A w0 s.heap.size, va_A w0 s.heap.size, MQ below (QN D P w0 s.heap.size) av.toArray s mc ms (va_A w0 s.heap.size)) ⟨BL.exec, BL.bytes, hts, hown, hK, hml, rfl, fun q h => Or.inr h, fun q h => Or.inl h⟩ ⟨hE, rfl, rfl, rfl, BL.notSynchronized, BL.returns⟩ rfl rfl rfl rfl (name_of_methodNamed BL.named BL.method).1 s.heap [] _ hP hD.self va_S.rf hl
theorem V_putF {K : KT} {cc : ByteArray} {own : String} {rm : Room} {g : G0} {cells slots : Nat} {ws : va_W} {lv : List (Nat × Value)} {rest : List Value} {pc : Nat} (C : KX K cc own rm g) (hBA : kA K = kB K) (hi : (kM K).name = "<init>") {index ci k : Nat} {ty : FieldType} {a : Nat} {fs : List Value} {v : Value} (q0 : Nat) (pc' : Nat) (ws' : va_W) (fl : FL own index ci k) (fp : FQ own ci k ty) (hd : decode cc pc = .ok (.putfield index, 3)) (hp : pc + 3 = pc') (he : ws[q0]? = some (a, .inr (ci, fs))) (hk : k < fs.length) (hn : narrow ty v = v) (hfit : fits ty v = true) (hw : ws.set q0 (a, .inr (ci, fs.set k v)) = ws') (kk : V K cells slots ws' lv rest pc') : V K cells slots ws lv (v :: .ref a :: rest) pc := by
  subst hp
  subst hw
  obtain ⟨C0, T, N, h1, h2, h3, h4⟩ := fl
  obtain ⟨C1, T1, N1, ty0, g1, g2, g3, g4, g5, g6⟩ := fp
  cases h1.symm.trans g1
  intro H locs ls hP hD hS hl
  refine va_putF C.1 C.2.1 C.2.2.1 h3 ty0 g2 g3 C.2.2.2.1 C.2.2.2.2.1 hP (A := kA K) (by rw [hBA]; exact hD) hS q0 he h1 k h2 (C.2.2.1 _ h4) (fun _ h9 => h9) g5 hi g6 g4 hn hfit hk hd (fun H1 locs1 hP1 hD1 hS1 => ?_)
  exact kk H1 locs1 ls hP1 (by rw [← hBA]; exact hD1) hS1 hl
theorem V_oinit {K : KT} {cc : ByteArray} {own : String} {rm : Room} {g : G0} {cells slots : Nat} {ws : va_W} {lv : List (Nat × Value)} {rest : List Value} {pc : Nat} (C : KX K cc own rm g) {index a : Nat} (pc' : Nat) (hw : Cond.methodLink own index ⟨"java/lang/Object", "<init>", "()V"⟩ ∈ wU) (hd : decode cc pc = .ok (.invokespecial index, 3)) (hp : pc + 3 = pc') (hroom : 1 ≤ rm.frames ∧ (rest.map fun v => v.category).sum + 12 ≤ rm.locals) (kk : V K cells slots ws lv rest pc') : V K cells slots ws lv (.ref a :: rest) pc := by
  subst hp
  intro H locs ls hP hD hS hl
  have hR2 : kR K = rm := C.2.2.2.2.2.2.1
  exact W.objInit C.1 C.2.1 C.2.2.2.1 (C.2.2.1 _ hw) (C.2.2.1 _ q90) (C.2.2.1 _ q91) rfl (by rw [C.2.2.2.2.2.1]; exact hl.1) rfl hd (by rw [hR2]; exact hroom.1) (by rw [hR2]; show 2 * 0 + _ + 12 ≤ _; omega) (kk H locs ls hP hD hS hl)
/-- a new Book -/
def bk0 : BkV := (fun _ => 0, fun _ => 0, fun _ => 0, fun _ => 0, fun _ => 0, fun _ => 0, 0, 1, 0, 0, 0, 0, 0)
theorem c_X0_init {l : Launch} {D : va_G} {g : G0} {o : Nat} : CtN l D g yX0_init cX0_init 1 none (rmN 1 40 6 68) ([(o, .inr (0, [.null, .null, .null, .null, .null, .null, .int 0, .int 0, .int 0, .int 0, .int 0, .int 0, .int 0]))]) [.ref o] (fun rv w1 => rv = none ∧ ∃ A : BkA, A.1 = o ∧ w1 = bkW g A bk0) 6 68 := by
  refine CtN.ofI (by decide) (Nat.le_of_ble_eq_true rfl) ?_
  intro K C Z hBA el eD ekn hnm
  subst el
  subst eD
  show V K 0 0 ([(o, .inr (0, [.null, .null, .null, .null, .null, .null, .int 0, .int 0, .int 0, .int 0, .int 0, .int 0, .int 0]))]) [(0, .ref o)] [] 0
  refine V_aload_n C 0 1 dX0_init_0 rfl rfl ?_
  refine V_oinit C 4 q97 dX0_init_1 rfl ⟨by decide, by exact (by decide : 0 + 12 ≤ 40)⟩ ?_
  refine V_aload_n C 0 5 dX0_init_4 rfl rfl ?_
  refine V_bipush C (12 : Int32) 7 dX0_init_5 rfl rfl ?_
  refine V_newI C hBA 12 9 q150 (by decide) (by decide) (by decide) (by exact (by decide : 1 ≤ 6)) (by exact (by decide : 12 ≤ 68)) dX0_init_7 rfl (fun b0 => ?_)
  show V K 1 12 ([(o, .inr (0, [.null, .null, .null, .null, .null, .null, .int 0, .int 0, .int 0, .int 0, .int 0, .int 0, .int 0])), (b0, aI g 12 (fun _ => 0))]) [(0, .ref o)] [.ref b0, .ref o] 9
  refine V_putF C hBA hnm 0 12 ([(o, .inr (0, [.ref b0, .null, .null, .null, .null, .null, .int 0, .int 0, .int 0, .int 0, .int 0, .int 0, .int 0])), (b0, aI g 12 (fun _ => 0))]) fl_X0_9 fq_X0_0 dX0_init_9 rfl rfl (by exact (by decide : 0 < 13)) rfl rfl rfl ?_
  refine V_aload_n C 0 13 dX0_init_12 rfl rfl ?_
  refine V_bipush C (12 : Int32) 15 dX0_init_13 rfl rfl ?_
  refine V_newI C hBA 12 17 q150 (by decide) (by decide) (by decide) (by exact (by decide : 2 ≤ 6)) (by exact (by decide : 24 ≤ 68)) dX0_init_15 rfl (fun b1 => ?_)
  show V K 2 24 ([(o, .inr (0, [.ref b0, .null, .null, .null, .null, .null, .int 0, .int 0, .int 0, .int 0, .int 0, .int 0, .int 0])), (b0, aI g 12 (fun _ => 0)), (b1, aI g 12 (fun _ => 0))]) [(0, .ref o)] [.ref b1, .ref o] 17
  refine V_putF C hBA hnm 0 20 ([(o, .inr (0, [.ref b0, .ref b1, .null, .null, .null, .null, .int 0, .int 0, .int 0, .int 0, .int 0, .int 0, .int 0])), (b0, aI g 12 (fun _ => 0)), (b1, aI g 12 (fun _ => 0))]) fl_X0_15 fq_X0_1 dX0_init_17 rfl rfl (by exact (by decide : 1 < 13)) rfl rfl rfl ?_
  refine V_aload_n C 0 21 dX0_init_20 rfl rfl ?_
  refine V_bipush C (12 : Int32) 23 dX0_init_21 rfl rfl ?_
  refine V_newI C hBA 12 25 q150 (by decide) (by decide) (by decide) (by exact (by decide : 3 ≤ 6)) (by exact (by decide : 36 ≤ 68)) dX0_init_23 rfl (fun b2 => ?_)
  show V K 3 36 ([(o, .inr (0, [.ref b0, .ref b1, .null, .null, .null, .null, .int 0, .int 0, .int 0, .int 0, .int 0, .int 0, .int 0])), (b0, aI g 12 (fun _ => 0)), (b1, aI g 12 (fun _ => 0)), (b2, aI g 12 (fun _ => 0))]) [(0, .ref o)] [.ref b2, .ref o] 25
  refine V_putF C hBA hnm 0 28 ([(o, .inr (0, [.ref b0, .ref b1, .ref b2, .null, .null, .null, .int 0, .int 0, .int 0, .int 0, .int 0, .int 0, .int 0])), (b0, aI g 12 (fun _ => 0)), (b1, aI g 12 (fun _ => 0)), (b2, aI g 12 (fun _ => 0))]) fl_X0_18 fq_X0_2 dX0_init_25 rfl rfl (by exact (by decide : 2 < 13)) rfl rfl rfl ?_
  refine V_aload_n C 0 29 dX0_init_28 rfl rfl ?_
  refine V_bipush C (12 : Int32) 31 dX0_init_29 rfl rfl ?_
  refine V_newI C hBA 12 33 q150 (by decide) (by decide) (by decide) (by exact (by decide : 4 ≤ 6)) (by exact (by decide : 48 ≤ 68)) dX0_init_31 rfl (fun b3 => ?_)
  show V K 4 48 ([(o, .inr (0, [.ref b0, .ref b1, .ref b2, .null, .null, .null, .int 0, .int 0, .int 0, .int 0, .int 0, .int 0, .int 0])), (b0, aI g 12 (fun _ => 0)), (b1, aI g 12 (fun _ => 0)), (b2, aI g 12 (fun _ => 0)), (b3, aI g 12 (fun _ => 0))]) [(0, .ref o)] [.ref b3, .ref o] 33
  refine V_putF C hBA hnm 0 36 ([(o, .inr (0, [.ref b0, .ref b1, .ref b2, .ref b3, .null, .null, .int 0, .int 0, .int 0, .int 0, .int 0, .int 0, .int 0])), (b0, aI g 12 (fun _ => 0)), (b1, aI g 12 (fun _ => 0)), (b2, aI g 12 (fun _ => 0)), (b3, aI g 12 (fun _ => 0))]) fl_X0_21 fq_X0_3 dX0_init_33 rfl rfl (by exact (by decide : 3 < 13)) rfl rfl rfl ?_
  refine V_aload_n C 0 37 dX0_init_36 rfl rfl ?_
  refine V_bipush C (12 : Int32) 39 dX0_init_37 rfl rfl ?_
  refine V_newI C hBA 12 41 q150 (by decide) (by decide) (by decide) (by exact (by decide : 5 ≤ 6)) (by exact (by decide : 60 ≤ 68)) dX0_init_39 rfl (fun b4 => ?_)
  show V K 5 60 ([(o, .inr (0, [.ref b0, .ref b1, .ref b2, .ref b3, .null, .null, .int 0, .int 0, .int 0, .int 0, .int 0, .int 0, .int 0])), (b0, aI g 12 (fun _ => 0)), (b1, aI g 12 (fun _ => 0)), (b2, aI g 12 (fun _ => 0)), (b3, aI g 12 (fun _ => 0)), (b4, aI g 12 (fun _ => 0))]) [(0, .ref o)] [.ref b4, .ref o] 41
  refine V_putF C hBA hnm 0 44 ([(o, .inr (0, [.ref b0, .ref b1, .ref b2, .ref b3, .ref b4, .null, .int 0, .int 0, .int 0, .int 0, .int 0, .int 0, .int 0])), (b0, aI g 12 (fun _ => 0)), (b1, aI g 12 (fun _ => 0)), (b2, aI g 12 (fun _ => 0)), (b3, aI g 12 (fun _ => 0)), (b4, aI g 12 (fun _ => 0))]) fl_X0_24 fq_X0_4 dX0_init_41 rfl rfl (by exact (by decide : 4 < 13)) rfl rfl rfl ?_
  refine V_aload_n C 0 45 dX0_init_44 rfl rfl ?_
  refine V_bipush C (8 : Int32) 47 dX0_init_45 rfl rfl ?_
  refine V_newI C hBA 8 49 q150 (by decide) (by decide) (by decide) (by exact (by decide : 6 ≤ 6)) (by exact (by decide : 68 ≤ 68)) dX0_init_47 rfl (fun b5 => ?_)
  show V K 6 68 ([(o, .inr (0, [.ref b0, .ref b1, .ref b2, .ref b3, .ref b4, .null, .int 0, .int 0, .int 0, .int 0, .int 0, .int 0, .int 0])), (b0, aI g 12 (fun _ => 0)), (b1, aI g 12 (fun _ => 0)), (b2, aI g 12 (fun _ => 0)), (b3, aI g 12 (fun _ => 0)), (b4, aI g 12 (fun _ => 0)), (b5, aI g 8 (fun _ => 0))]) [(0, .ref o)] [.ref b5, .ref o] 49
  refine V_putF C hBA hnm 0 52 ([(o, .inr (0, [.ref b0, .ref b1, .ref b2, .ref b3, .ref b4, .ref b5, .int 0, .int 0, .int 0, .int 0, .int 0, .int 0, .int 0])), (b0, aI g 12 (fun _ => 0)), (b1, aI g 12 (fun _ => 0)), (b2, aI g 12 (fun _ => 0)), (b3, aI g 12 (fun _ => 0)), (b4, aI g 12 (fun _ => 0)), (b5, aI g 8 (fun _ => 0))]) fl_X0_27 fq_X0_5 dX0_init_49 rfl rfl (by exact (by decide : 5 < 13)) rfl rfl rfl ?_
  refine V_aload_n C 0 53 dX0_init_52 rfl rfl ?_
  refine V_iconst C (0 : Int32) 54 dX0_init_53 rfl rfl ?_
  refine V_put C hBA 0 57 ([(o, .inr (0, [.ref b0, .ref b1, .ref b2, .ref b3, .ref b4, .ref b5, .int (0 : Int32), .int 0, .int 0, .int 0, .int 0, .int 0, .int 0])), (b0, aI g 12 (fun _ => 0)), (b1, aI g 12 (fun _ => 0)), (b2, aI g 12 (fun _ => 0)), (b3, aI g 12 (fun _ => 0)), (b4, aI g 12 (fun _ => 0)), (b5, aI g 8 (fun _ => 0))]) fl_X0_30 fp_X0_6 dX0_init_54 rfl rfl (by exact (by decide : 6 < 13)) rfl rfl rfl ?_
  refine V_aload_n C 0 58 dX0_init_57 rfl rfl ?_
  refine V_iconst C (1 : Int32) 59 dX0_init_58 rfl rfl ?_
  refine V_put C hBA 0 62 ([(o, .inr (0, [.ref b0, .ref b1, .ref b2, .ref b3, .ref b4, .ref b5, .int (0 : Int32), .int (1 : Int32), .int 0, .int 0, .int 0, .int 0, .int 0])), (b0, aI g 12 (fun _ => 0)), (b1, aI g 12 (fun _ => 0)), (b2, aI g 12 (fun _ => 0)), (b3, aI g 12 (fun _ => 0)), (b4, aI g 12 (fun _ => 0)), (b5, aI g 8 (fun _ => 0))]) fl_X0_34 fp_X0_7 dX0_init_59 rfl rfl (by exact (by decide : 7 < 13)) rfl rfl rfl ?_
  refine V_aload_n C 0 63 dX0_init_62 rfl rfl ?_
  refine V_iconst C (0 : Int32) 64 dX0_init_63 rfl rfl ?_
  refine V_put C hBA 0 67 ([(o, .inr (0, [.ref b0, .ref b1, .ref b2, .ref b3, .ref b4, .ref b5, .int (0 : Int32), .int (1 : Int32), .int (0 : Int32), .int 0, .int 0, .int 0, .int 0])), (b0, aI g 12 (fun _ => 0)), (b1, aI g 12 (fun _ => 0)), (b2, aI g 12 (fun _ => 0)), (b3, aI g 12 (fun _ => 0)), (b4, aI g 12 (fun _ => 0)), (b5, aI g 8 (fun _ => 0))]) fl_X0_37 fp_X0_8 dX0_init_64 rfl rfl (by exact (by decide : 8 < 13)) rfl rfl rfl ?_
  refine V_aload_n C 0 68 dX0_init_67 rfl rfl ?_
  refine V_iconst C (0 : Int32) 69 dX0_init_68 rfl rfl ?_
  refine V_put C hBA 0 72 ([(o, .inr (0, [.ref b0, .ref b1, .ref b2, .ref b3, .ref b4, .ref b5, .int (0 : Int32), .int (1 : Int32), .int (0 : Int32), .int (0 : Int32), .int 0, .int 0, .int 0])), (b0, aI g 12 (fun _ => 0)), (b1, aI g 12 (fun _ => 0)), (b2, aI g 12 (fun _ => 0)), (b3, aI g 12 (fun _ => 0)), (b4, aI g 12 (fun _ => 0)), (b5, aI g 8 (fun _ => 0))]) fl_X0_40 fp_X0_9 dX0_init_69 rfl rfl (by exact (by decide : 9 < 13)) rfl rfl rfl ?_
  refine V_aload_n C 0 73 dX0_init_72 rfl rfl ?_
  refine V_iconst C (0 : Int32) 74 dX0_init_73 rfl rfl ?_
  refine V_put C hBA 0 77 ([(o, .inr (0, [.ref b0, .ref b1, .ref b2, .ref b3, .ref b4, .ref b5, .int (0 : Int32), .int (1 : Int32), .int (0 : Int32), .int (0 : Int32), .int (0 : Int32), .int 0, .int 0])), (b0, aI g 12 (fun _ => 0)), (b1, aI g 12 (fun _ => 0)), (b2, aI g 12 (fun _ => 0)), (b3, aI g 12 (fun _ => 0)), (b4, aI g 12 (fun _ => 0)), (b5, aI g 8 (fun _ => 0))]) fl_X0_43 fp_X0_10 dX0_init_74 rfl rfl (by exact (by decide : 10 < 13)) rfl rfl rfl ?_
  refine V_aload_n C 0 78 dX0_init_77 rfl rfl ?_
  refine V_iconst C (0 : Int32) 79 dX0_init_78 rfl rfl ?_
  refine V_put C hBA 0 82 ([(o, .inr (0, [.ref b0, .ref b1, .ref b2, .ref b3, .ref b4, .ref b5, .int (0 : Int32), .int (1 : Int32), .int (0 : Int32), .int (0 : Int32), .int (0 : Int32), .int (0 : Int32), .int 0])), (b0, aI g 12 (fun _ => 0)), (b1, aI g 12 (fun _ => 0)), (b2, aI g 12 (fun _ => 0)), (b3, aI g 12 (fun _ => 0)), (b4, aI g 12 (fun _ => 0)), (b5, aI g 8 (fun _ => 0))]) fl_X0_46 fp_X0_11 dX0_init_79 rfl rfl (by exact (by decide : 11 < 13)) rfl rfl rfl ?_
  refine V_aload_n C 0 83 dX0_init_82 rfl rfl ?_
  refine V_iconst C (0 : Int32) 84 dX0_init_83 rfl rfl ?_
  refine V_put C hBA 0 87 ([(o, .inr (0, [.ref b0, .ref b1, .ref b2, .ref b3, .ref b4, .ref b5, .int (0 : Int32), .int (1 : Int32), .int (0 : Int32), .int (0 : Int32), .int (0 : Int32), .int (0 : Int32), .int (0 : Int32)])), (b0, aI g 12 (fun _ => 0)), (b1, aI g 12 (fun _ => 0)), (b2, aI g 12 (fun _ => 0)), (b3, aI g 12 (fun _ => 0)), (b4, aI g 12 (fun _ => 0)), (b5, aI g 8 (fun _ => 0))]) fl_X0_49 fp_X0_12 dX0_init_84 rfl rfl (by exact (by decide : 12 < 13)) rfl rfl rfl ?_
  exact V_nretV C Z rfl ⟨rfl, (o, b0, b1, b2, b3, b4, b5), rfl, rfl⟩ dX0_init_87 (Nat.le_refl _) (Nat.le_refl _)
