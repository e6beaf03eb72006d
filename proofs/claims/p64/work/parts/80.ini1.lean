/-! ===== a letter of the output, both sides ===== -/
theorem rx_outputAt {N : Nat} {x : XV} {m : MdV} (h : RX N x m) (a : Int32) : ∃ T : List Nat, SBT x.2.2.2.2.2.2.1 T ∧ T.length ≤ 110 ∧ ((∃ i c, a = nI i ∧ T[i]? = some c ∧ c < 128 ∧ f_X4_outputAt m a = some (nI c, mTh m 0)) ∨ ((a < 0 ∨ ¬ a < nI T.length) ∧ f_X4_outputAt m a = some (0, mTh m 1))) := by
  obtain ⟨-, -, -, -, -, -, ho⟩ := h
  obtain ⟨T, h1, h2, h3, h4⟩ := ho.text
  refine ⟨T, h2, h1, ?_⟩
  by_cases hp : 0 ≤ a ∧ a < nI T.length
  · obtain ⟨i, hi, rfl⟩ := in_rng (by omega) hp
    have hc : T[i]? = some T[i] := List.getElem?_eq_getElem hi
    exact Or.inl ⟨i, T[i], rfl, hc, (h4 i _ hc).2, tm_outputAt h3 h1 h4 hc⟩
  · refine Or.inr ⟨?_, ?_⟩
    · by_cases h0 : a < 0
      · exact Or.inl h0
      · exact Or.inr fun q => hp ⟨Int32.not_lt.mp h0, q⟩
    · unfold f_X4_outputAt f_X4_outputAt_B28
      have e : decide ((0 : Int32) ≤ a ∧ a ≤ Md_outputSize m - 1) = false := decide_eq_false fun q => by
        refine hp ⟨q.1, ?_⟩
        obtain ⟨k, hk, rfl⟩ := nI_of (x := a) (Int32.not_lt.mpr q.1)
        have q2 := q.2
        rw [h3] at q2
        have t1 := nI_sub_toInt (a := T.length) (b := 1) (by omega) (by omega)
        have t2 : (nI T.length - 1 : Int32) = nI T.length - nI 1 := rfl
        have t3 : (nI k).toInt ≤ (nI T.length - 1).toInt := Int32.le_iff_toInt_le.mp q2
        rw [t2, t1, nI_toInt hk] at t3
        exact nI_lt (by omega) (by omega)
      rw [tm_in, bd_s, e, b2_f, tm_fine0, bd_s]
      rfl
/-! ===== arrays of Books ===== -/
section OROWS
variable {K : KT} {cc : ByteArray} {own : String} {rm : Room} {g : G0} {cells slots : Nat} {ws ws' : va_W} {lv : List (Nat × Value)} {st rest : List Value} {pc : Nat}
theorem V_oast (C : KX K cc own rm g) (hBA : kA K = kB K) {a n v : Nat} {f : Nat → Option Nat} {vs : List Value} {i : Int32} (q0 qk pc' : Nat) (ws' : va_W) (hd : decode cc pc = .ok (.aastore, 1)) (hp : pc + 1 = pc') (ha : ws[q0]? = some (a, aO g n f)) (hv : ws[qk]? = some (v, .inr (0, vs))) (hin : inb i n = true) (hw : ws.set q0 (a, aO g n (va_up f (cl i) (some v))) = ws') (kk : V K cells slots ws' lv rest pc') : V K cells slots ws lv (.ref v :: .int i :: .ref a :: rest) pc := by
  subst hp
  subst hw
  intro H locs ls hP hD hS hl
  refine va_astq C.1 C.2.1 C.2.2.2.2.1 hP (A := kA K) (by rw [hBA]; exact hD) hS q0 5 qk 0 (r := (RX0, TX0, 13)) ha rfl hv rfl (inb_t hin) hd (fun H1 locs1 hP1 hD1 hS1 => ?_)
  exact kk H1 locs1 ls hP1 (by rw [← hBA]; exact hD1) hS1 hl
/-- only the first n places of it count -/
theorem V_ocg {a n : Nat} {f f' : Nat → Option Nat} (q0 : Nat) (he : ws[q0]? = some (a, aO g n f)) (hf : ∀ j, j < n → f j = f' j) (hw : ws.set q0 (a, aO g n f') = ws') (kk : V K cells slots ws' lv st pc) : V K cells slots ws lv st pc := by
  subst hw
  intro H locs ls hP hD hS hl
  refine kk H locs ls (hP.set hD he ?_ (fun q _ => rfl)) (hD.set he) hS hl
  have e : vp_cell g.2.2.2.2.2 (n, .inr (.inr (.inr (.inr f)))) = vp_cell g.2.2.2.2.2 (n, .inr (.inr (.inr (.inr f')))) := by
    rw [vp_cell_q, vp_cell_q]
    unfold arrV
    congr 1
    refine congrArg Array.ofFn (funext fun j => ?_)
    show va_rf (f j.val) = va_rf (f' j.val)
    rw [hf j.val j.isLt]
  show H[a]? = some (vp_cell g.2.2.2.2.2 (n, .inr (.inr (.inr (.inr f')))))
  rw [← e]
  exact hP q0 _ he
end OROWS
theorem mNW (i : Nat) {w : Cond} (h : lw_tbl[i]? = some w) (hk : nwK w = true) : w ∈ nwW := List.mem_filter.mpr ⟨List.mem_of_getElem? h, hk⟩
/-! ===== constructors: History ===== -/
abbrev cX1_init : ByteArray := prog_3_method_1_code
def yX1_init : MethodName := ⟨RX1, "<init>", "()V"⟩
theorem dX1_init_0 : decode cX1_init 0 = .ok (.aload_n 0, 1) := by decide +kernel
theorem dX1_init_1 : decode cX1_init 1 = .ok (.invokespecial 3, 3) := by decide +kernel
theorem dX1_init_4 : decode cX1_init 4 = .ok (.aload_n 0, 1) := by decide +kernel
theorem dX1_init_5 : decode cX1_init 5 = .ok (.bipush 8, 2) := by decide +kernel
theorem dX1_init_7 : decode cX1_init 7 = .ok (.anewarray 9, 3) := by decide +kernel
theorem dX1_init_10 : decode cX1_init 10 = .ok (.putfield 11, 3) := by decide +kernel
theorem dX1_init_13 : decode cX1_init 13 = .ok (.aload_n 0, 1) := by decide +kernel
theorem dX1_init_14 : decode cX1_init 14 = .ok (.iconst 0, 1) := by decide +kernel
theorem dX1_init_15 : decode cX1_init 15 = .ok (.putfield 17, 3) := by decide +kernel
theorem dX1_init_18 : decode cX1_init 18 = .ok (.aload_n 0, 1) := by decide +kernel
theorem dX1_init_19 : decode cX1_init 19 = .ok (.iconst 0, 1) := by decide +kernel
theorem dX1_init_20 : decode cX1_init 20 = .ok (.putfield 21, 3) := by decide +kernel
theorem dX1_init_23 : decode cX1_init 23 = .ok (.iconst 0, 1) := by decide +kernel
theorem dX1_init_24 : decode cX1_init 24 = .ok (.istore_n 1, 1) := by decide +kernel
theorem dX1_init_25 : decode cX1_init 25 = .ok (.iload_n 1, 1) := by decide +kernel
theorem dX1_init_26 : decode cX1_init 26 = .ok (.bipush 8, 2) := by decide +kernel
theorem dX1_init_28 : decode cX1_init 28 = .ok (.if_icmp .ge 22, 3) := by decide +kernel
theorem dX1_init_31 : decode cX1_init 31 = .ok (.aload_n 0, 1) := by decide +kernel
theorem dX1_init_32 : decode cX1_init 32 = .ok (.getfield 11, 3) := by decide +kernel
theorem dX1_init_35 : decode cX1_init 35 = .ok (.iload_n 1, 1) := by decide +kernel
theorem dX1_init_36 : decode cX1_init 36 = .ok (.new 9, 3) := by decide +kernel
theorem dX1_init_39 : decode cX1_init 39 = .ok (.dup, 1) := by decide +kernel
theorem dX1_init_40 : decode cX1_init 40 = .ok (.invokespecial 24, 3) := by decide +kernel
theorem dX1_init_43 : decode cX1_init 43 = .ok (.aastore, 1) := by decide +kernel
theorem dX1_init_44 : decode cX1_init 44 = .ok (.iinc 1 1, 3) := by decide +kernel
theorem dX1_init_47 : decode cX1_init 47 = .ok (.goto (-22), 3) := by decide +kernel
theorem dX1_init_50 : decode cX1_init 50 = .ok (.return_, 1) := by decide +kernel
theorem q156 : Cond.methodLink "BookmarkManager$History" 3 (⟨"java/lang/Object", "<init>", "()V"⟩ : MethodName) ∈ wU := mU 110 (by decide +kernel) (by decide +kernel)
theorem q157 : Cond.classLink "BookmarkManager$History" 9 "BookmarkManager$Book" ∈ wU := mU 111 (by decide +kernel) (by decide +kernel)
theorem q93 : Cond.instantiable "BookmarkManager$Book" 13 ∈ wU := mU 48 (by decide +kernel) (by decide +kernel)
theorem q95 : Cond.instanceMethod yX0_init ∈ wU := mU 50 (by decide +kernel) (by decide +kernel)
theorem q96 : Cond.code yX0_init prog_2_method_1_code 1 none ∈ wU := mU 51 (by decide +kernel) (by decide +kernel)
theorem q159 : Cond.methodLinkNest "BookmarkManager$History" 24 yX0_init "BookmarkManager" ∈ nwW := mNW 113 (by decide +kernel) (by decide +kernel)
theorem fq_X1_0 : FQ RX1 1 0 (.array (.object "BookmarkManager$Book")) := ⟨RX1, TX1, 3, tyX1, rfl, tyX1_ok, nmX1, by decide +kernel, rfl, rfl⟩
theorem nw_X1_9 : NW RX1 9 0 [.null, .null, .null, .null, .null, .null, .int 0, .int 0, .int 0, .int 0, .int 0, .int 0, .int 0] 13 := ⟨RX0, TX0, tyX0, rfl, iX0, tyX0_ok, q157, q93, q57, by decide +kernel⟩
theorem ln_X1_24 : CLn RX1 24 yX0_init "BookmarkManager" cX0_init 1 0 := ⟨⟨by decide, by decide, by decide +kernel⟩, q159, q57, q96, q95, rfl⟩
/-- the books of a list, new -/
def nbW (g : G0) (Bs : List BkA) : va_W := Bs.flatMap fun B => bkW g B bk0
def nbf (Bs : List BkA) : Nat → Option Nat := fun j => (Bs[j]?).map fun B => B.1
theorem nbf_up (Bs : List BkA) (B : BkA) : va_up (nbf Bs) Bs.length (some B.1) = nbf (Bs ++ [B]) := by
  funext j
  unfold va_up nbf
  by_cases e : j = Bs.length
  · subst e
    rw [if_pos rfl, List.getElem?_append_right (Nat.le_refl _), Nat.sub_self]
    rfl
  · rw [if_neg e]
    by_cases h : j < Bs.length
    · rw [List.getElem?_append_left h]
    · rw [List.getElem?_eq_none (by omega), List.getElem?_eq_none (by rw [List.length_append]; simp only [List.length_cons, List.length_nil]; omega)]
theorem nbW_hbW (g : G0) (Bs : List BkA) (h : Bs.length = 8) (d : BkA) : nbW g Bs = hbW g (fun j => Bs.getD j d) (fun _ => bk0) := by
  obtain ⟨B0, B1, B2, B3, B4, B5, B6, B7, rfl⟩ : ∃ B0 B1 B2 B3 B4 B5 B6 B7, Bs = [B0, B1, B2, B3, B4, B5, B6, B7] := by
    match Bs, h with
    | [B0, B1, B2, B3, B4, B5, B6, B7], _ => exact ⟨B0, B1, B2, B3, B4, B5, B6, B7, rfl⟩
  rfl
theorem c_X1_init {l : Launch} {D : va_G} {g : G0} {o : Nat} : CtN l D g yX1_init cX1_init 2 none (rmN 2 70 57 656) [(o, .inr (1, [.null, .int 0, .int 0]))] [.ref o] (fun rv w1 => rv = none ∧ ∃ (A : HsA) (hA : Nat → BkA), A.1 = o ∧ w1 = hsW g A hA (0, 0) ++ hbW g hA (fun _ => bk0)) 57 656 := by
  refine CtN.ofI (by decide) (Nat.le_of_ble_eq_true rfl) ?_
  intro K C Z hBA el eD ekn hnm
  subst el
  subst eD
  have hlt : ∀ i, i < 2 → i < kn K := fun i h => by rw [ekn]; exact h
  have loop : ∀ d (S : Nat) (Bs : List BkA) cells slots, Bs.length + d = 8 → cells + 7 * d ≤ 57 → slots + 81 * d ≤ 656 → V K cells slots ([(o, .inr (1, [.ref S, .int 0, .int 0])), (S, aO g 8 (nbf Bs))] ++ nbW g Bs) [(1, .int (nI Bs.length)), (0, .ref o)] [] 25 := by
    intro d
    induction d with
    | zero =>
      intro S Bs cells slots hi hc hs
      have e8 : Bs.length = 8 := by omega
      refine V_iload_n C 0 26 dX1_init_25 rfl rfl ?_
      refine V_bipush C (8 : Int32) 28 dX1_init_26 rfl rfl ?_
      refine V_icmp_ge C 50 31 dX1_init_28 rfl rfl (fun _ => ?_) (fun e => absurd (show (8 : Int32) ≤ nI Bs.length from by rw [e8]; decide) e)
      refine V_ocg (f' := fun j => some (Bs.getD j (0, 0, 0, 0, 0, 0, 0)).1) 1 rfl (fun j hj => ?_) rfl ?_
      · unfold nbf
        have hj2 : j < Bs.length := by omega
        rw [List.getD_eq_getElem?_getD, List.getElem?_eq_getElem hj2]
        rfl
      exact V_nretV C Z rfl ⟨rfl, (o, S), fun j => Bs.getD j (0, 0, 0, 0, 0, 0, 0), rfl, by rw [nbW_hbW g Bs e8 (0, 0, 0, 0, 0, 0, 0)]; rfl⟩ dX1_init_50 (by omega) (by omega)
    | succ d ih =>
      intro S Bs cells slots hi hc hs
      refine V_iload_n C 0 26 dX1_init_25 rfl rfl ?_
      refine V_bipush C (8 : Int32) 28 dX1_init_26 rfl rfl ?_
      refine V_icmp_ge C 50 31 dX1_init_28 rfl rfl (fun e => absurd e (show ¬ (8 : Int32) ≤ nI Bs.length from nI_ge (b := 8) (by omega) (by decide))) (fun _ => ?_)
      refine V_aload_n C 1 32 dX1_init_31 rfl rfl ?_
      refine V_get C (v := .ref S) 0 35 fl_X1_11 dX1_init_32 rfl rfl rfl ?_
      refine V_iload_n C 0 36 dX1_init_35 rfl rfl ?_
      refine V_newX C hBA nw_X1_9 39 (by show cells + 1 ≤ 57; omega) (by show slots + 13 ≤ 656; omega) dX1_init_36 rfl (fun q => ?_)
      refine V_dup C 40 dX1_init_39 rfl rfl ?_
      refine V_callNn (as := []) (pre := [(o, .inr (1, [.ref S, .int 0, .int 0])), (S, aO g 8 (nbf Bs))] ++ nbW g Bs) (w0 := [(q, .inr (0, [.null, .null, .null, .null, .null, .null, .int 0, .int 0, .int 0, .int 0, .int 0, .int 0, .int 0]))]) (post := []) (rest := [.ref q, .int (nI Bs.length), .ref S]) C hBA Z.1 ln_X1_24 c_X0_init dX1_init_40 (by decide) rfl rfl rfl (by exact (by decide : 3 ≤ 8)) ⟨by show cells + 1 + 6 ≤ 57; omega, by show slots + 13 + 68 ≤ 656; omega⟩ (fun rv w1 hP => ?_)
      obtain ⟨rfl, B, rfl, rfl⟩ := hP
      have hB : ([(o, .inr (1, [.ref S, .int 0, .int 0])), (S, aO g 8 (nbf Bs))] ++ nbW g Bs ++ (bkW g B bk0 ++ []))[2 + (nbW g Bs).length]? = some (B.1, .inr (0, [.ref B.2.1, .ref B.2.2.1, .ref B.2.2.2.1, .ref B.2.2.2.2.1, .ref B.2.2.2.2.2.1, .ref B.2.2.2.2.2.2, .int (Bk_marks bk0), .int (Bk_chapters bk0), .int (Bk_reader bk0), .int (Bk_nextId bk0), .int (Bk_votes bk0), .int (Bk_carried bk0), .int (Bk_fallen bk0)])) := by
        rw [List.getElem?_append_right (by simp only [List.length_append, List.length_cons, List.length_nil]; omega)]
        simp only [List.length_append, List.length_cons, List.length_nil]
        rw [show 2 + (nbW g Bs).length - (0 + 1 + 1 + (nbW g Bs).length) = 0 by omega]
        rfl
      refine V_oast C hBA (f := nbf Bs) (n := 8) 1 (2 + (nbW g Bs).length) 44 ([(o, .inr (1, [.ref S, .int 0, .int 0])), (S, aO g 8 (nbf (Bs ++ [B])))] ++ nbW g (Bs ++ [B])) dX1_init_43 rfl rfl hB (inb_of (vp_in_nI (by omega) (by decide))) ?_ ?_
      · rw [cl_n (by omega), nbf_up]
        have e9 : nbW g (Bs ++ [B]) = nbW g Bs ++ (bkW g B bk0 ++ []) := by unfold nbW; rw [List.flatMap_append]; rfl
        rw [e9]
        rfl
      refine V_iinc C 0 (nI (Bs.length + 1)) 47 [(1, .int (nI (Bs.length + 1))), (0, .ref o)] dX1_init_44 rfl rfl (nI_1 _) (hlt 1 (by decide)) rfl ?_
      refine V_goto C 25 dX1_init_47 rfl ?_
      have h9 := ih S (Bs ++ [B]) (cells + 1 + 6) (slots + 13 + 68) (by rw [List.length_append]; simp only [List.length_cons, List.length_nil]; omega) (by omega) (by omega)
      rw [show (Bs ++ [B]).length = Bs.length + 1 from List.length_append] at h9
      exact h9
  show V K 0 0 [(o, .inr (1, [.null, .int 0, .int 0]))] [(0, .ref o)] [] 0
  refine V_aload_n C 0 1 dX1_init_0 rfl rfl ?_
  refine V_oinit C 4 q156 dX1_init_1 rfl ⟨by decide, by exact (by decide : 0 + 12 ≤ 70)⟩ ?_
  refine V_aload_n C 0 5 dX1_init_4 rfl rfl ?_
  refine V_bipush C (8 : Int32) 7 dX1_init_5 rfl rfl ?_
  refine V_newO C hBA 8 10 Z.1 q157 (by decide) (by decide) (by decide) (by exact (by decide : 0 + 1 ≤ 57)) (by exact (by decide : 0 + 8 ≤ 656)) dX1_init_7 rfl (fun S => ?_)
  refine V_putF C hBA hnm 0 13 [(o, .inr (1, [.ref S, .int 0, .int 0])), (S, aO g 8 (fun _ => none))] fl_X1_11 fq_X1_0 dX1_init_10 rfl rfl (by exact (by decide : 0 < 3)) rfl rfl rfl ?_
  refine V_aload_n C 0 14 dX1_init_13 rfl rfl ?_
  refine V_iconst C (0 : Int32) 15 dX1_init_14 rfl rfl ?_
  refine V_put C hBA 0 18 [(o, .inr (1, [.ref S, .int 0, .int 0])), (S, aO g 8 (fun _ => none))] fl_X1_17 fp_X1_1 dX1_init_15 rfl rfl (by exact (by decide : 1 < 3)) rfl rfl rfl ?_
  refine V_aload_n C 0 19 dX1_init_18 rfl rfl ?_
  refine V_iconst C (0 : Int32) 20 dX1_init_19 rfl rfl ?_
  refine V_put C hBA 0 23 [(o, .inr (1, [.ref S, .int 0, .int 0])), (S, aO g 8 (fun _ => none))] fl_X1_21 fp_X1_2 dX1_init_20 rfl rfl (by exact (by decide : 2 < 3)) rfl rfl rfl ?_
  refine V_iconst C (0 : Int32) 24 dX1_init_23 rfl rfl ?_
  refine V_istore_n C 25 [(1, .int (0 : Int32)), (0, .ref o)] dX1_init_24 rfl (hlt 1 (by decide)) rfl ?_
  exact loop 8 S [] 1 8 rfl (by decide) (by decide)
