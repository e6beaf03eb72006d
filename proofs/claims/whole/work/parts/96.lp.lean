/-! ===== the loop ===== -/
theorem law_cases {K : KT} {g : G0} {b L o od t cells slots : Nat} {xs : Nat → Int32} {A : XA} {B : MdA} {x : XV} {m : MdV} {f : Nat → Int64} {fd : Nat → UInt64} (Lk : LK K g b L xs) (ht : 3 * t + 2 < L) (h : RX (30 * t) x m) (hr : cells + 100 ≤ 603072 ∧ slots + 10000 ≤ 7194730) (ke : LE K g b o od B t (cells + 100) (slots + 10000)) : V K cells slots (LW g A B x m o od f fd) (lvL A.1 B.1 b o od t) [] 37 := by
  obtain ⟨C, hBA, hE, hN, hst, hX, hbl, hbA, hL, h9⟩ := id Lk
  have key : ∀ c, c < 64 → V K cells slots (LW g A B x m o od f fd) (lvL A.1 B.1 b o od t) [.int (nI c)] 44 := by
    intro c hc
    rcases c with _ | _ | _ | _ | _ | _ | _ | _ | _ | _ | _ | _ | _ | _ | _ | _ | _ | _ | _ | _ | _ | _ | _ | _ | _ | _ | _ | _ | _ | _ | _ | _ | _ | _ | _ | _ | _ | _ | _ | _ | _ | _ | _ | _ | _ | _ | _ | _ | _ | _ | _ | _ | _ | _ | _ | _ | _ | _ | _ | _ | _ | _ | _ | _ | c
    · exact V_tblIn C 304 dL_law_44 (by decide) (by decide) rfl rfl (law_0 Lk ht h hr ke)
    · exact V_tblIn C 372 dL_law_44 (by decide) (by decide) rfl rfl (law_1 Lk ht h hr ke)
    · exact V_tblIn C 440 dL_law_44 (by decide) (by decide) rfl rfl (law_2 Lk ht h hr ke)
    · exact V_tblIn C 496 dL_law_44 (by decide) (by decide) rfl rfl (law_3 Lk ht h hr ke)
    · exact V_tblIn C 564 dL_law_44 (by decide) (by decide) rfl rfl (law_4 Lk ht h hr ke)
    · exact V_tblIn C 632 dL_law_44 (by decide) (by decide) rfl rfl (law_5 Lk ht h hr ke)
    · exact V_tblIn C 695 dL_law_44 (by decide) (by decide) rfl rfl (law_6 Lk ht h hr ke)
    · exact V_tblIn C 751 dL_law_44 (by decide) (by decide) rfl rfl (law_7 Lk ht h hr ke)
    · exact V_tblIn C 807 dL_law_44 (by decide) (by decide) rfl rfl (law_8 Lk ht h hr ke)
    · exact V_tblIn C 863 dL_law_44 (by decide) (by decide) rfl rfl (law_9 Lk ht h hr ke)
    · exact V_tblIn C 919 dL_law_44 (by decide) (by decide) rfl rfl (law_10 Lk ht h hr ke)
    · exact V_tblIn C 975 dL_law_44 (by decide) (by decide) rfl rfl (law_11 Lk ht h hr ke)
    · exact V_tblIn C 1038 dL_law_44 (by decide) (by decide) rfl rfl (law_12 Lk ht h hr ke)
    · exact V_tblIn C 1094 dL_law_44 (by decide) (by decide) rfl rfl (law_13 Lk ht h hr ke)
    · exact V_tblIn C 1150 dL_law_44 (by decide) (by decide) rfl rfl (law_14 Lk ht h hr ke)
    · exact V_tblIn C 1206 dL_law_44 (by decide) (by decide) rfl rfl (law_15 Lk ht h hr ke)
    · exact V_tblIn C 1262 dL_law_44 (by decide) (by decide) rfl rfl (law_16 Lk ht h hr ke)
    · exact V_tblIn C 1318 dL_law_44 (by decide) (by decide) rfl rfl (law_17 Lk ht h hr ke)
    · exact V_tblIn C 1374 dL_law_44 (by decide) (by decide) rfl rfl (law_18 Lk ht h hr ke)
    · exact V_tblIn C 1437 dL_law_44 (by decide) (by decide) rfl rfl (law_19 Lk ht h hr ke)
    · exact V_tblIn C 1493 dL_law_44 (by decide) (by decide) rfl rfl (law_20 Lk ht h hr ke)
    · exact V_tblIn C 1549 dL_law_44 (by decide) (by decide) rfl rfl (law_21 Lk ht h hr ke)
    · exact V_tblIn C 1605 dL_law_44 (by decide) (by decide) rfl rfl (law_22 Lk ht h hr ke)
    · exact V_tblIn C 1661 dL_law_44 (by decide) (by decide) rfl rfl (law_23 Lk ht h hr ke)
    · exact V_tblIn C 1717 dL_law_44 (by decide) (by decide) rfl rfl (law_24 Lk ht h hr ke)
    · exact V_tblIn C 1773 dL_law_44 (by decide) (by decide) rfl rfl (law_25 Lk ht h hr ke)
    · exact V_tblIn C 1829 dL_law_44 (by decide) (by decide) rfl rfl (law_26 Lk ht h hr ke)
    · exact V_tblIn C 1885 dL_law_44 (by decide) (by decide) rfl rfl (law_27 Lk ht h hr ke)
    · exact V_tblIn C 1948 dL_law_44 (by decide) (by decide) rfl rfl (law_28 Lk ht h hr ke)
    · exact V_tblIn C 1961 dL_law_44 (by decide) (by decide) rfl rfl (law_29 Lk ht h hr ke)
    · exact V_tblIn C 2045 dL_law_44 (by decide) (by decide) rfl rfl (law_30 Lk ht h hr ke)
    · exact V_tblIn C 2058 dL_law_44 (by decide) (by decide) rfl rfl (law_31 Lk ht h hr ke)
    · exact V_tblIn C 2102 dL_law_44 (by decide) (by decide) rfl rfl (law_32 Lk ht h hr ke)
    · exact V_tblIn C 2186 dL_law_44 (by decide) (by decide) rfl rfl (law_33 Lk ht h hr ke)
    · exact V_tblIn C 2242 dL_law_44 (by decide) (by decide) rfl rfl (law_34 Lk ht h hr ke)
    · exact V_tblIn C 2298 dL_law_44 (by decide) (by decide) rfl rfl (law_35 Lk ht h hr ke)
    · exact V_tblIn C 2311 dL_law_44 (by decide) (by decide) rfl rfl (law_36 Lk ht h hr ke)
    · exact V_tblIn C 2324 dL_law_44 (by decide) (by decide) rfl rfl (law_37 Lk ht h hr ke)
    · exact V_tblIn C 2337 dL_law_44 (by decide) (by decide) rfl rfl (law_38 Lk ht h hr ke)
    · exact V_tblIn C 2350 dL_law_44 (by decide) (by decide) rfl rfl (law_39 Lk ht h hr ke)
    · exact V_tblIn C 2363 dL_law_44 (by decide) (by decide) rfl rfl (law_40 Lk ht h hr ke)
    · exact V_tblIn C 2376 dL_law_44 (by decide) (by decide) rfl rfl (law_41 Lk ht h hr ke)
    · exact V_tblIn C 2389 dL_law_44 (by decide) (by decide) rfl rfl (law_42 Lk ht h hr ke)
    · exact V_tblIn C 2402 dL_law_44 (by decide) (by decide) rfl rfl (law_43 Lk ht h hr ke)
    · exact V_tblIn C 2415 dL_law_44 (by decide) (by decide) rfl rfl (law_44 Lk ht h hr ke)
    · exact V_tblIn C 2428 dL_law_44 (by decide) (by decide) rfl rfl (law_45 Lk ht h hr ke)
    · exact V_tblIn C 2493 dL_law_44 (by decide) (by decide) rfl rfl (law_46 Lk ht h hr ke)
    · exact V_tblIn C 2571 dL_law_44 (by decide) (by decide) rfl rfl (law_47 Lk ht h hr ke)
    · exact V_tblIn C 2584 dL_law_44 (by decide) (by decide) rfl rfl (law_48 Lk ht h hr ke)
    · exact V_tblIn C 2640 dL_law_44 (by decide) (by decide) rfl rfl (law_49 Lk ht h hr ke)
    · exact V_tblIn C 2653 dL_law_44 (by decide) (by decide) rfl rfl (law_50 Lk ht h hr ke)
    · exact V_tblIn C 2709 dL_law_44 (by decide) (by decide) rfl rfl (law_51 Lk ht h hr ke)
    · exact V_tblIn C 2767 dL_law_44 (by decide) (by decide) rfl rfl (law_52 Lk ht h hr ke)
    · exact V_tblIn C 2811 dL_law_44 (by decide) (by decide) rfl rfl (law_53 Lk ht h hr ke)
    · exact V_tblIn C 2855 dL_law_44 (by decide) (by decide) rfl rfl (law_54 Lk ht h hr ke)
    · exact V_tblIn C 2899 dL_law_44 (by decide) (by decide) rfl rfl (law_55 Lk ht h hr ke)
    · exact V_tblIn C 2943 dL_law_44 (by decide) (by decide) rfl rfl (law_56 Lk ht h hr ke)
    · exact V_tblIn C 2987 dL_law_44 (by decide) (by decide) rfl rfl (law_57 Lk ht h hr ke)
    · exact V_tblIn C 3031 dL_law_44 (by decide) (by decide) rfl rfl (law_58 Lk ht h hr ke)
    · exact V_tblIn C 3044 dL_law_44 (by decide) (by decide) rfl rfl (law_59 Lk ht h hr ke)
    · exact V_tblIn C 3057 dL_law_44 (by decide) (by decide) rfl rfl (law_60 Lk ht h hr ke)
    · exact V_tblOut C 3101 dL_law_44 (Or.inr (by decide)) rfl (V_widen (by omega) (by omega) (ke A x m f fd (h.mono (by omega))))
    · exact V_tblOut C 3101 dL_law_44 (Or.inr (by decide)) rfl (V_widen (by omega) (by omega) (ke A x m f fd (h.mono (by omega))))
    · exact V_tblOut C 3101 dL_law_44 (Or.inr (by decide)) rfl (V_widen (by omega) (by omega) (ke A x m f fd (h.mono (by omega))))
    · omega
  refine V_aload_n C 5 38 dL_law_37 rfl rfl ?_
  refine V_iload C 0 40 dL_law_38 rfl rfl ?_
  refine V_sld C hX hbl hbA 41 dL_law_40 rfl (inb_of (vp_in_nI (by omega) (by omega))) ?_
  refine V_bipush C (63 : Int32) 43 dL_law_41 rfl rfl ?_
  refine V_iand C 44 dL_law_43 rfl ?_
  obtain ⟨c, hc, e⟩ := and63 (xs (cl (nI (3 * t))))
  rw [e]
  exact key c hc
theorem law_loop {K : KT} {g : G0} {b L o od : Nat} {xs : Nat → Int32} {B : MdA} (Lk : LK K g b L xs) (hend : ∀ (cells slots : Nat) (ws : va_W) (lv : List (Nat × Value)), cells ≤ 603072 → slots ≤ 7194730 → V K cells slots ws lv [] 3107) : ∀ (n t cells slots : Nat) (A : XA) (x : XV) (m : MdV) (f : Nat → Int64) (fd : Nat → UInt64), L ≤ 3 * t + n → t ≤ 512 → RX (30 * t) x m → cells ≤ 1000 + 1000 * t → slots ≤ 9000 + 14000 * t → V K cells slots (LW g A B x m o od f fd) (lvL A.1 B.1 b o od t) [] 28 := by
  obtain ⟨C, hBA, hE, hN, hst, hX, hbl, hbA, hL, h9⟩ := id Lk
  have hlt : ∀ i, i < 9 → i < kn K := fun i h => by rw [h9]; exact h
  intro n
  induction n with
  | zero =>
    intro t cells slots A x m f fd hn ht h hc hs
    refine V_iload C 0 30 dL_law_28 rfl rfl ?_
    refine V_aload_n C 5 31 dL_law_30 rfl rfl ?_
    refine V_slen C hX hbl hbA 32 dL_law_31 rfl ?_
    refine V_iconst C (3 : Int32) 33 dL_law_32 rfl rfl ?_
    refine V_isub C 34 dL_law_33 rfl ?_
    refine V_icmp_gt C 3107 37 dL_law_34 rfl rfl (fun _ => hend _ _ _ _ (by omega) (by omega)) (fun e => ?_)
    exfalso
    refine e (Int32.lt_iff_toInt_lt.mpr ?_)
    have t1 := nI_sub_toInt (a := L) (b := 3) (by omega) (by omega)
    have t2 : (nI L - 3 : Int32) = nI L - nI 3 := rfl
    rw [t2, t1, nI_toInt (by omega)]
    omega
  | succ n ih =>
    intro t cells slots A x m f fd hn ht h hc hs
    refine V_iload C 0 30 dL_law_28 rfl rfl ?_
    refine V_aload_n C 5 31 dL_law_30 rfl rfl ?_
    refine V_slen C hX hbl hbA 32 dL_law_31 rfl ?_
    refine V_iconst C (3 : Int32) 33 dL_law_32 rfl rfl ?_
    refine V_isub C 34 dL_law_33 rfl ?_
    refine V_icmp_gt C 3107 37 dL_law_34 rfl rfl (fun _ => hend _ _ _ _ (by omega) (by omega)) (fun e => ?_)
    have ht2 : 3 * t + 2 < L := by
      have e2 : ¬ (nI L - 3 : Int32).toInt < (nI (3 * t)).toInt := fun q => e (Int32.lt_iff_toInt_lt.mpr q)
      have t1 := nI_sub_toInt (a := L) (b := 3) (by omega) (by omega)
      have t2 : (nI L - 3 : Int32) = nI L - nI 3 := rfl
      rw [t2, t1, nI_toInt (by omega)] at e2
      omega
    refine law_cases Lk ht2 h ⟨by omega, by omega⟩ (fun A' x' m' f' fd' h' => ?_)
    refine V_iinc C 0 (nI (3 * (t + 1))) 3104 (lvL A'.1 B.1 b o od (t + 1)) dL_law_3101 rfl rfl ?_ (hlt 5 (by decide)) rfl ?_
    · show nI (3 * t) + nI 3 = nI (3 * (t + 1))
      rw [nI_add]
      exact congrArg nI (by omega)
    refine V_goto C 28 dL_law_3104 rfl ?_
    exact ih (t + 1) _ _ A' x' m' f' fd' (by omega) (by omega) h' (by omega) (by omega)
theorem lw_perm {α : Type} (x m o d : List α) : (m ++ ((o ++ d) ++ x)).Perm (((([] ++ (x ++ [])) ++ (m ++ [])) ++ o) ++ d) := by
  have h := List.perm_append_comm (l₁ := m ++ (o ++ d)) (l₂ := x)
  simp only [List.append_assoc] at h
  simp only [List.nil_append, List.append_nil, List.append_assoc]
  exact h

/-! THE CLAIM OUT OF ONE WALK OF THE LAW'S BODY. Your part is whole_start (and what it stands on); all else here is the same for every law, but numbers. -/
def R_law : String := "BookmarkManagerLaw"
def lw_P (b : Addr) (xs : List Int32) (args : Array Value) (s : State) : Prop := args = #[.ref b] ∧ s.IntsAt b xs ∧ xs.length ≤ 1536 ∧ (Jvm.Cond.and given_1 narrow_1).before args s = true
/-- what a walk over the start with the record d0 says of its end, said of the start itself -/
theorem lw_closed {s t : State} {o : Outcome} {d0 : Drawn} {L : List Loc} {k n : Nat} (hd0 : s.drawn.sameBut d0 lw_cs) (hv : ∃ v, o = .returned v) (hW : (s.setDrawn d0).WarmedH t.vm) (hs : (s.setDrawn d0).sameButNew ({ t with vm := s.vm } : State) L k n) : State.butDraws s t lw_cs (fun t1 => Framed s o t1 L k n) := by
  have h2 : t.drawn = d0 := congrArg State.drawn hs.1
  refine ⟨⟨hv, hW, State.sameButNew.setDrawn hs s.drawn⟩, ?_, by decide⟩
  rw [h2]
  exact hd0
def lw_Q (_ : Array Value) (s : State) (o : Outcome) (t : State) : Prop := o = .returned (some (.int 1)) ∧ State.butDraws s t lw_cs (fun t1 => Framed s o t1 [] 603072 7194730)
def lw_Z (below : List Frame) (a : Array Value) (s : State) : State → Prop := fun t => ∃ o, t.status = .running ∧ Ended t below o ∧ lw_Q a s o t
/-- the law's own end, with 1 on the stack, nothing written that was there before, its room as the claim has it; d0: the record of draws at this point (at the entry s.drawn: begin with 'refine W.base ?_' and 'have hd0 := Drawn.sameBut.refl s.drawn lw_cs') -/
theorem lw_ret {p : Program} {l : Launch} {e : Env} {s : State} {m : MethodId} {below : List Frame} {meth : Method} {c : Code} {b : Nat} {d0 : Drawn} (hd0 : s.drawn.sameBut d0 lw_cs) (hx : p.tables.exec = Jvm.exec) (hb : c.code = code) (hr : meth.sig.returnType = ret) (hlocks : meth.locks = false) {pc : Nat} {H : Heap} {ls : Array Slot} (hdg : decode code pc = .ok (.ireturn, 1)) : W p l e room_1 (s.setDrawn d0) m #[Value.ref b] below meth c H [] 603072 7194730 (lw_Z below #[Value.ref b] s) (F0 m pc ls [.int 1]) := by
  intro T hT X
  obtain ⟨fs, hret, hrun, hended, hW, hframe⟩ := X.leave (v := some (.int 1)) (hlocks := hlocks) (fun h => by rw [hr] at h; cases h)
  have hmeth' : T.vm.method? m = some meth := X.method'
  refine ⟨T.setFrames fs, ?_, .returned (some (.int 1)), hrun, hended, rfl, lw_closed hd0 ⟨_, rfl⟩ hW hframe⟩
  jvm_step X.here [X.here.top, hx, hb, hdg, hmeth', hr, ret, narrow_b1]
  (try refine ⟨rfl, ?_⟩); (try refine ⟨rfl, ?_⟩)
  first | (intro acts; rw [hret _ acts rfl rfl rfl]) | rw [hret _ _ rfl rfl rfl]
  exact Steps.refl _
/-- what holds at the law's entry: the machine, the code, the tables' words (any of lw_tbl by 'hts w (by decide +kernel)'), the script of L ints xs at the cell b, what the Statement gives of the start (any of its parts by flat_of_before) -/
def lw_At (p : Program) (s : State) (m : MethodId) (meth : Method) (c : Code) (b L : Nat) (xs : Nat → Int32) : Prop :=
  p.tables.exec = Jvm.exec ∧ c.code = code ∧ meth.sig.returnType = ret ∧ c.maxLocals = 9 ∧ s.vm.findClass R_law = some m.cls ∧ (∀ w ∈ lw_tbl, w.before #[Value.ref b] s = true) ∧ va_X b L xs s s.heap ∧ b < s.heap.size ∧ meth.locks = false ∧ (Jvm.Cond.and given_1 narrow_1).before #[Value.ref b] s = true

theorem whole_start {p : Program} {e : Env} {s : State} {m : MethodId} {below : List Frame} {meth : Method} {c : Code} (l : Launch) (hflags : l.flags = flags0) {b L : Nat} {xs : Nat → Int32} (hL : L ≤ 1536) (C0 : lw_At p s m meth c b L xs) : W p l e room_1 s m #[Value.ref b] below meth c s.heap [] 0 0 (lw_Z below #[Value.ref b] s) (entryFrame m ([Value.ref b] : List Value).toArray 9) := by
  obtain ⟨hx, hcode, hret, hml, hown, hts, hX, hbl, hlocks, hgv⟩ := C0
  obtain ⟨D, g, hK⟩ := st_K hts
  have hst : l.stackTraces = false := by
    unfold Launch.stackTraces
    rw [hflags]
    decide +kernel
  obtain ⟨K, eK⟩ : ∃ K : KT, K = (p, l, e, room_1, s, m, #[Value.ref b], below, meth, c, 9, D, (fun q => s.heap.size ≤ q), (fun q => s.heap.size ≤ q), lw_Z below #[Value.ref b] s) := ⟨_, rfl⟩
  have hX0 : ∀ w ∈ wU, w.before #[Value.ref b] s = true := fun w h => hts w (wU_tbl w h)
  have Lk : LK K g b L xs := by
    subst eK
    exact ⟨⟨hx, hcode, hX0, hown, hK, hml, rfl, fun q h => h, fun q h => Or.inl h⟩, rfl, st_E hts hgv, st_N hgv, hst, hX, hbl, Nat.not_le.mpr hbl, hL, rfl⟩
  have hend : ∀ (cells slots : Nat) (ws : va_W) (lv : List (Nat × Value)), cells ≤ 603072 → slots ≤ 7194730 → V K cells slots ws lv [] 3107 := by
    intro cells slots ws lv hc hs
    refine V_iconst Lk.1 (1 : Int32) 3108 dL_law_3107 rfl rfl ?_
    subst eK
    intro H locs ls hP hD hS hl
    show W p l e room_1 s m #[Value.ref b] below meth c H locs cells slots (lw_Z below #[Value.ref b] s) (F0 m 3108 ls [.int 1])
    refine va_forget (fun q hq => hS.2.2 q hq) ?_
    refine W.widen hc hs ?_
    exact lw_ret (d0 := s.drawn) (Drawn.sameBut.refl s.drawn lw_cs) hx hcode hret hlocks dL_law_3108
  have main : V K 0 0 [] [(0, .ref b)] [] 0 := by
    obtain ⟨C, hBA, hE, hN, -, -, -, -, -, h9⟩ := id Lk
    have hlt : ∀ i, i < 9 → i < kn K := fun i h => by rw [h9]; exact h
    refine V_newX C hBA nw_L_8 3 (by show 0 + 1 ≤ 603072; omega) (by show 0 + 11 ≤ 7194730; omega) dL_law_0 rfl (fun q1 => ?_)
    refine V_dup C 4 dL_law_3 rfl rfl ?_
    refine V_callNi (as := []) (pre := []) (w0 := [(q1, .inr (3, [.null, .null, .null, .null, .null, .null, .int 0, .int 0, .int 0, .int 0, .int 0]))]) (post := []) (rest := [.ref q1]) C hBA hE lz_L_165 rfl im_X3_init c_X3_init dL_law_4 ⟨Nat.le_of_ble_eq_true rfl, Nat.le_of_ble_eq_true rfl⟩ rfl rfl rfl (Nat.le_of_ble_eq_true rfl) ⟨by show 0 + 1 + 86 ≤ 603072; omega, by show 0 + 11 + 1079 ≤ 7194730; omega⟩ (fun rv w1 hP => ?_)
    obtain ⟨rfl, A, rfl, rfl⟩ := hP
    refine V_astore_n C 8 [(1, .ref A.1), (0, .ref b)] dL_law_7 rfl (hlt 1 (by decide)) rfl ?_
    refine V_newX C hBA nw_L_166 11 (by show 0 + 1 + 86 + 1 ≤ 603072; omega) (by show 0 + 11 + 1079 + 17 ≤ 7194730; omega) dL_law_8 rfl (fun q2 => ?_)
    refine V_dup C 12 dL_law_11 rfl rfl ?_
    refine V_callNi (as := []) (pre := [] ++ (xW g A x0 ++ [])) (w0 := [(q2, .inr (4, [.int 0, .null, .int 0, .int 0, .int 0, .int 0, .int 0, .int 0, .null, .int 0, .null, .int 0, .int 0, .int 0, .int 0, .null, .int 0]))]) (post := []) (rest := [.ref q2]) C hBA hE lz_L_168 rfl im_X4_init c_X4_init dL_law_12 ⟨Nat.le_of_ble_eq_true rfl, Nat.le_of_ble_eq_true rfl⟩ rfl rfl rfl (Nat.le_of_ble_eq_true rfl) ⟨by show 0 + 1 + 86 + 1 + 4 ≤ 603072; omega, by show 0 + 11 + 1079 + 17 + 1188 ≤ 7194730; omega⟩ (fun rv w1 hP => ?_)
    obtain ⟨rfl, B, rfl, rfl⟩ := hP
    refine V_astore_n C 16 [(2, .ref B.1), (1, .ref A.1), (0, .ref b)] dL_law_15 rfl (hlt 2 (by decide)) rfl ?_
    refine V_iconst C (1 : Int32) 17 dL_law_16 rfl rfl ?_
    refine V_newL C hBA 1 19 ac_long (by decide) (by decide) (by decide) (by show 0 + 1 + 86 + 1 + 4 + 1 ≤ 603072; omega) (by show 0 + 11 + 1079 + 17 + 1188 + 1 ≤ 7194730; omega) dL_law_17 rfl (fun o => ?_)
    refine V_astore_n C 20 [(3, .ref o), (2, .ref B.1), (1, .ref A.1), (0, .ref b)] dL_law_19 rfl (hlt 3 (by decide)) rfl ?_
    refine V_iconst C (1 : Int32) 21 dL_law_20 rfl rfl ?_
    refine V_newD C hBA 1 23 ac_double (by decide) (by decide) (by decide) (by show 0 + 1 + 86 + 1 + 4 + 1 + 1 ≤ 603072; omega) (by show 0 + 11 + 1079 + 17 + 1188 + 1 + 1 ≤ 7194730; omega) dL_law_21 rfl (fun od => ?_)
    refine V_astore C 25 [(4, .ref od), (3, .ref o), (2, .ref B.1), (1, .ref A.1), (0, .ref b)] dL_law_23 rfl (hlt 4 (by decide)) rfl ?_
    refine V_iconst C (0 : Int32) 26 dL_law_25 rfl rfl ?_
    refine V_istore C 28 [(5, .int (0 : Int32)), (4, .ref od), (3, .ref o), (2, .ref B.1), (1, .ref A.1), (0, .ref b)] dL_law_26 rfl (hlt 5 (by decide)) rfl ?_
    refine V_perm (ws2 := LW g A B x0 md0 o od (fun _ => 0) (fun _ => 0)) (lw_perm (xW g A x0) (mdW g B md0) [(o, aL g 1 (fun _ => 0))] [(od, aD g 1 (fun _ => 0))]) ?_
    exact law_loop Lk hend L 0 _ _ A x0 md0 _ _ (by omega) (by omega) rx0 (by omega) (by omega)
  rw [lg_entry_eq]
  have hl := lv_entry [Value.ref b] (n := 9) (Nat.le_of_ble_eq_true rfl)
  subst eK
  exact main s.heap [] _ (fun k q h => by cases h) ⟨fun i j p q hi => (by cases hi), fun k q h => (by cases h)⟩ va_S.rf hl
