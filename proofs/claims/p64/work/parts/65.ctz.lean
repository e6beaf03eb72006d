/-! ===== a throw in a walk that knows what allocation needs ===== -/
/-- y returns or throws, as R says; around it stands all that SBq says -/
def CtZ (l : Launch) (D : va_G) (g : G0) (y : MethodName) (b : ByteArray) (n : Nat) (ret : Option FieldType) (rm : Room) (w0 : va_W) (av : List Value) (R : RX9) : Prop :=
  ∀ sz : Nat, vx_Met l y (wM y b n ret) rm (va_Pc av (fun U => U.heap.size = sz ∧ va_P D cl0 w0 U.heap ∧ va_K D cl0 (TY g) U ∧ va_D (fun _ => True) w0 ∧ SBq D (va_A w0 sz) U U.heap)) (QX D R w0 sz) (XX D R w0 sz) (mcR R) (msR R) (va_A w0 sz)
theorem CtZ.of {l : Launch} {D : va_G} {g : G0} {y : MethodName} {b : ByteArray} {n : Nat} {ret : Option FieldType} {rm : Room} {w0 : va_W} {av : List Value} {R : RX9} (hy : plainName y.cls = true) (hav : (lg_sl av).length ≤ n) (hst : l.stackTraces = false)
    (body : ∀ K : KT, KX K b y.cls rm g → KZ K R w0 ret → SBq (kD K) (kA K) (ks K) (ks K).heap → kA K = kB K → l = kl K → D = kD K → kn K = n → V K 0 0 w0 (lv_args 0 av) [] 0) : CtZ l D g y b n ret rm w0 av R := by
  intro sz
  refine vx_ofW (cc := b) (maxL := n) (ret := ret) hy rfl ?_
  intro p e s m args below meth c s₁ BL hml htab hv
  obtain ⟨rfl, hsz, hP, hK, hD, hE⟩ := hv
  subst hsz
  have hts : ∀ w ∈ wU, w.before av.toArray s = true := fun w h => atoms_spec (ws := wM y b n ret) BL.pre w (List.mem_cons_of_mem _ h)
  have hown : s.vm.findClass y.cls = some m.cls := findClass_of_methodNamed BL.named
  rw [lg_entry_eq]
  have hl := lv_entry av (n := n) hav
  exact body (p, l, e, rm, s, m, av.toArray, below, meth, c, n, D, va_A w0 s.heap.size, va_A w0 s.heap.size, vx_MQ below (QX D R w0 s.heap.size) (XX D R w0 s.heap.size) av.toArray s (mcR R) (msR R) (va_A w0 s.heap.size)) ⟨BL.exec, BL.bytes, hts, hown, hK, hml, rfl, fun q h => Or.inr h, fun q h => Or.inl h⟩ ⟨hst, htab, hE.2.2.2.2.2, rfl, rfl, BL.notSynchronized, BL.returns⟩ hE rfl rfl rfl rfl s.heap [] _ hP hD.self va_S.rf hl
