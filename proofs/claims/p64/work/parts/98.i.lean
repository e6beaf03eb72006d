/-! ===== what the start gives ===== -/
def gvL : List Cond := flatC (Jvm.Cond.and given_1 narrow_1)
theorem gv_cs : Cond.eq (.static "java/lang/String" "COMPACT_STRINGS" "Z") (.int 1) ∈ gvL := List.mem_of_getElem? (i := 4) (by decide +kernel)
theorem gv_fm : Cond.isRef (.static "jdk/internal/util/Preconditions" "SIOOBE_FORMATTER" "Ljava/util/function/BiFunction;") ∈ gvL := List.mem_of_getElem? (i := 7) (by decide +kernel)
theorem gv_us : Cond.isRef (.static Bundle.tN "UNASSIGNED_STACK" Bundle.steD) ∈ gvL := List.mem_of_getElem? (i := 5) (by decide +kernel)
theorem gv_ss : Cond.isRef (.static Bundle.tN "SUPPRESSED_SENTINEL" Bundle.listD) ∈ gvL := List.mem_of_getElem? (i := 6) (by decide +kernel)
theorem gv_doa : Cond.arrayOf (.static "java/lang/Integer" "DigitOnes" "[B") .byte ∈ gvL := List.mem_of_getElem? (i := 12) (by decide +kernel)
theorem gv_dol : Cond.eq (.length (.static "java/lang/Integer" "DigitOnes" "[B")) (.int 100) ∈ gvL := List.mem_of_getElem? (i := 13) (by decide +kernel)
theorem gv_doe : ∀ j : Fin 100, gvL[14 + j.val]? = some (Cond.eq (.elem (.static "java/lang/Integer" "DigitOnes" "[B") (.int (Int32.ofNat j.val))) (.int (Int32.ofNat (48 + j.val % 10)))) := by decide +kernel
theorem gv_dta : Cond.arrayOf (.static "java/lang/Integer" "DigitTens" "[B") .byte ∈ gvL := List.mem_of_getElem? (i := 115) (by decide +kernel)
theorem gv_dtl : Cond.eq (.length (.static "java/lang/Integer" "DigitTens" "[B")) (.int 100) ∈ gvL := List.mem_of_getElem? (i := 116) (by decide +kernel)
theorem gv_dte : ∀ j : Fin 100, gvL[117 + j.val]? = some (Cond.eq (.elem (.static "java/lang/Integer" "DigitTens" "[B") (.int (Int32.ofNat j.val))) (.int (Int32.ofNat (48 + j.val / 10)))) := by decide +kernel
theorem gv_n0 : Cond.not (.castable "java/lang/IllegalArgumentException" "java/lang/IndexOutOfBoundsException") ∈ gvL := List.mem_of_getElem? (i := 222) (by decide +kernel)
theorem gv_n1 : Cond.not (.castable "java/lang/UnsupportedOperationException" "java/lang/IndexOutOfBoundsException") ∈ gvL := List.mem_of_getElem? (i := 223) (by decide +kernel)
theorem gv_n2 : Cond.not (.castable "java/lang/UnsupportedOperationException" "java/lang/IllegalArgumentException") ∈ gvL := List.mem_of_getElem? (i := 246) (by decide +kernel)
theorem gv_n3 : Cond.not (.castable "java/util/NoSuchElementException" "java/lang/IndexOutOfBoundsException") ∈ gvL := List.mem_of_getElem? (i := 224) (by decide +kernel)
theorem tb_cs : Cond.laysStatic "java/lang/String" "COMPACT_STRINGS" "Z" ∈ lw_tbl := List.mem_of_getElem? (i := 163) (by decide +kernel)
theorem tb_fm : Cond.laysStatic "jdk/internal/util/Preconditions" "SIOOBE_FORMATTER" "Ljava/util/function/BiFunction;" ∈ lw_tbl := List.mem_of_getElem? (i := 706) (by decide +kernel)
theorem tb_do : Cond.laysStatic "java/lang/Integer" "DigitOnes" "[B" ∈ lw_tbl := List.mem_of_getElem? (i := 776) (by decide +kernel)
theorem tb_dt : Cond.laysStatic "java/lang/Integer" "DigitTens" "[B" ∈ lw_tbl := List.mem_of_getElem? (i := 778) (by decide +kernel)
theorem tb_us : Cond.laysStatic Bundle.tN "UNASSIGNED_STACK" Bundle.steD ∈ lw_tbl := List.mem_of_getElem? (i := 259) (by decide +kernel)
theorem tb_ss : Cond.laysStatic Bundle.tN "SUPPRESSED_SENTINEL" Bundle.listD ∈ lw_tbl := List.mem_of_getElem? (i := 261) (by decide +kernel)
theorem tb_ist : Cond.initialized "java/lang/String" ∈ lw_tbl := List.mem_of_getElem? (i := 19) (by decide +kernel)
theorem tb_iin : Cond.initialized "java/lang/Integer" ∈ lw_tbl := List.mem_of_getElem? (i := 31) (by decide +kernel)
theorem tb_ith : Cond.initialized "java/lang/Throwable" ∈ lw_tbl := List.mem_of_getElem? (i := 21) (by decide +kernel)
theorem tb_ipr : Cond.initialized "jdk/internal/util/Preconditions" ∈ lw_tbl := List.mem_of_getElem? (i := 35) (by decide +kernel)
theorem tb_ao : Cond.arrayOver (.object "BookmarkManager$Book") ∈ lw_tbl := List.mem_of_getElem? (i := 112) (by decide +kernel)
theorem tb_a_int : Cond.arrayClass .int ∈ lw_tbl := List.mem_of_getElem? (i := 104) (by decide +kernel)
theorem tb_a_char : Cond.arrayClass .char ∈ lw_tbl := List.mem_of_getElem? (i := 152) (by decide +kernel)
theorem tb_a_byte : Cond.arrayClass .byte ∈ lw_tbl := List.mem_of_getElem? (i := 185) (by decide +kernel)
theorem tb_k0 : Cond.instantiable "BookmarkManager$Book" 13 ∈ lw_tbl := List.mem_of_getElem? (i := 48) (by decide +kernel)
theorem tb_k1 : Cond.instantiable "BookmarkManager$History" 3 ∈ lw_tbl := List.mem_of_getElem? (i := 106) (by decide +kernel)
theorem tb_k2 : Cond.instantiable "BookmarkManager$Script" 7 ∈ lw_tbl := List.mem_of_getElem? (i := 125) (by decide +kernel)
theorem tb_k3 : Cond.instantiable "BookmarkManager" 11 ∈ lw_tbl := List.mem_of_getElem? (i := 40) (by decide +kernel)
theorem tb_k4 : Cond.instantiable "java/lang/String" 4 ∈ lw_tbl := List.mem_of_getElem? (i := 792) (by decide +kernel)
theorem tb_k5 : Cond.instantiable "java/lang/StringBuilder" 4 ∈ lw_tbl := List.mem_of_getElem? (i := 154) (by decide +kernel)
theorem tb_str : ∀ q ∈ strTab, Cond.stringRef q.1 q.2.1 q.2.2 ∈ lw_tbl := by
  have h : ∀ p ∈ strTab.zip [331, 1042, 1103, 277, 951, 959, 500, 356, 468, 1009, 588, 1241, 1180], lw_tbl[p.2]? = some (Cond.stringRef p.1.1 p.1.2.1 p.1.2.2) := by decide +kernel
  intro q hq
  obtain ⟨k, hk⟩ := List.getElem?_of_mem hq
  have hkl := lt_get hk
  have hl : strTab.length = 13 := rfl
  have hz : ∃ j, (strTab.zip [331, 1042, 1103, 277, 951, 959, 500, 356, 468, 1009, 588, 1241, 1180])[k]? = some (q, j) := by
    refine ⟨[331, 1042, 1103, 277, 951, 959, 500, 356, 468, 1009, 588, 1241, 1180][k]'(by show k < 13; omega), ?_⟩
    rw [List.getElem?_zip_eq_some]
    exact ⟨hk, List.getElem?_eq_getElem _⟩
  obtain ⟨j, hj⟩ := hz
  exact List.mem_of_getElem? (h _ (List.mem_of_getElem? hj))
theorem tb_pe : Cond.privateMethod ⟨"java/lang/AbstractStringBuilder", "ensureCapacityInternal", "(I)V"⟩ ∈ lw_tbl := List.mem_of_getElem? (i := 654) (by decide +kernel)
theorem tb_qe : Cond.instanceMethod ⟨"java/lang/AbstractStringBuilder", "ensureCapacityInternal", "(I)V"⟩ ∈ lw_tbl := List.mem_of_getElem? (i := 655) (by decide +kernel)
theorem tb_se : Cond.sameMethod "java/lang/AbstractStringBuilder" "java/lang/AbstractStringBuilder" "ensureCapacityInternal" "(I)V" ∈ lw_tbl := List.mem_of_getElem? (i := 1282) (by decide +kernel)
theorem tb_pn : Cond.privateMethod ⟨"java/lang/AbstractStringBuilder", "newCapacity", "(I)I"⟩ ∈ lw_tbl := List.mem_of_getElem? (i := 658) (by decide +kernel)
theorem tb_qn : Cond.instanceMethod ⟨"java/lang/AbstractStringBuilder", "newCapacity", "(I)I"⟩ ∈ lw_tbl := List.mem_of_getElem? (i := 659) (by decide +kernel)
theorem tb_sn : Cond.sameMethod "java/lang/AbstractStringBuilder" "java/lang/AbstractStringBuilder" "newCapacity" "(I)I" ∈ lw_tbl := List.mem_of_getElem? (i := 1283) (by decide +kernel)
theorem tb_pp : Cond.privateMethod ⟨"java/lang/AbstractStringBuilder", "putStringAt", "(ILjava/lang/String;)V"⟩ ∈ lw_tbl := List.mem_of_getElem? (i := 729) (by decide +kernel)
theorem tb_qp : Cond.instanceMethod ⟨"java/lang/AbstractStringBuilder", "putStringAt", "(ILjava/lang/String;)V"⟩ ∈ lw_tbl := List.mem_of_getElem? (i := 730) (by decide +kernel)
theorem tb_sp : Cond.sameMethod "java/lang/AbstractStringBuilder" "java/lang/AbstractStringBuilder" "putStringAt" "(ILjava/lang/String;)V" ∈ lw_tbl := List.mem_of_getElem? (i := 1284) (by decide +kernel)
theorem tb_pf : Cond.privateMethod ⟨"java/lang/AbstractStringBuilder", "inflateIfNeededFor", "(Ljava/lang/String;)V"⟩ ∈ lw_tbl := List.mem_of_getElem? (i := 733) (by decide +kernel)
theorem tb_qf : Cond.instanceMethod ⟨"java/lang/AbstractStringBuilder", "inflateIfNeededFor", "(Ljava/lang/String;)V"⟩ ∈ lw_tbl := List.mem_of_getElem? (i := 734) (by decide +kernel)
theorem tb_sf : Cond.sameMethod "java/lang/AbstractStringBuilder" "java/lang/AbstractStringBuilder" "inflateIfNeededFor" "(Ljava/lang/String;)V" ∈ lw_tbl := List.mem_of_getElem? (i := 1285) (by decide +kernel)
def ksIx : List Nat := [165, 177, 179, 181, 218, 220]
abbrev ksTm (i : Nat) : Term := .string "BookmarkManagerLaw" (ksIx.getD i 0)
theorem gk_ex9 : ∀ a : Fin 6, gvL[[846, 870, 896, 923, 950, 977].getD a.val 0]? = some (Cond.exactly (ksTm a.val) "java/lang/String") := by decide +kernel
theorem gk_co9 : ∀ a : Fin 6, gvL[[847, 871, 897, 924, 951, 978].getD a.val 0]? = some (Cond.eq (.field (ksTm a.val) "java/lang/String" "coder" "B") (.int 0)) := by decide +kernel
theorem gk_ar9 : ∀ a : Fin 6, gvL[[848, 872, 898, 925, 952, 979].getD a.val 0]? = some (Cond.arrayOf (.field (ksTm a.val) "java/lang/String" "value" "[B") .byte) := by decide +kernel
theorem gk_le9 : ∀ a : Fin 6, gvL[[849, 873, 899, 926, 953, 980].getD a.val 0]? = some (Cond.eq (.length (.field (ksTm a.val) "java/lang/String" "value" "[B")) (.int (Int32.ofNat (ksLen.getD a.val 0)))) := by decide +kernel
theorem gk_el9 : ∀ a : Fin 6, ∀ b : Fin 2, b.val < ksLen.getD a.val 0 → gvL[[850, 874, 900, 927, 0, 981].getD a.val 0 + b.val]? = some (Cond.eq (.elem (.field (ksTm a.val) "java/lang/String" "value" "[B") (.int (Int32.ofNat b.val))) (.int ((ksByt.getD a.val []).getD b.val 0))) := by decide +kernel
theorem gk_ne9 : ∀ a b : Fin 6, b.val < a.val → gvL[[0, 895, 921, 947, 973, 1001].getD a.val 0 + b.val]? = some (Cond.not (Cond.eq (ksTm b.val) (ksTm a.val))) := by decide +kernel
theorem tb_ks : ∀ q ∈ ksTab, Cond.stringRef RL q.1 q.2.1 ∈ lw_tbl ∧ q.1 = ksIx.getD q.2.2 0 ∧ q.2.2 < 6 := by
  have h : ∀ a : Fin 6, ∀ q, ksTab[a.val]? = some q → lw_tbl[1272 + a.val]? = some (Cond.stringRef RL q.1 q.2.1) ∧ q.1 = ksIx.getD q.2.2 0 ∧ q.2.2 < 6 := by
    intro a q hq
    have h2 : ∀ a : Fin 6, lw_tbl[1272 + a.val]? = (ksTab[a.val]?).map (fun q => Cond.stringRef RL q.1 q.2.1) := by decide +kernel
    have h3 : ∀ q ∈ ksTab, q.1 = ksIx.getD q.2.2 0 ∧ q.2.2 < 6 := by decide +kernel
    exact ⟨by rw [h2, hq]; rfl, h3 q (List.mem_of_getElem? hq)⟩
  intro q hq
  obtain ⟨k, hk⟩ := List.getElem?_of_mem hq
  have hkl := lt_get hk
  have hl : ksTab.length = 6 := rfl
  obtain ⟨a1, a2⟩ := h ⟨k, by omega⟩ q hk
  exact ⟨List.mem_of_getElem? a1, a2⟩
theorem i32_nat (x : Int32) : Int32.ofNat x.toBitVec.toNat = x := Int32.toBitVec_inj.mp (by show BitVec.ofNat 32 _ = _; rw [BitVec.ofNat_toNat, BitVec.setWidth_eq])
def D9 (c : Nat → Nat) (kk kv : Nat → Nat) (b L : Nat) : Nat → Nat := fun n => if n < 6 then c n else if n < 200 then kk (n - 100) else if n < 300 then kv (n - 200) else if n = 300 then b else L
theorem D9_k {c kk kv : Nat → Nat} {b L i : Nat} (hi : i < 6) : D9 c kk kv b L (100 + i) = kk i := by
  unfold D9
  rw [if_neg (by omega), if_pos (by omega), Nat.add_sub_cancel_left]
theorem D9_v {c kk kv : Nat → Nat} {b L i : Nat} (hi : i < 6) : D9 c kk kv b L (200 + i) = kv i := by
  unfold D9
  rw [if_neg (by omega), if_neg (by omega), if_pos (by omega), Nat.add_sub_cancel_left]
def c9 (c0 c1 c2 c3 c4 c5 : Nat) : Nat → Nat := fun c => match c with | 0 => c0 | 1 => c1 | 2 => c2 | 3 => c3 | 4 => c4 | _ => c5
def d9 (d0 d1 d2 d3 d4 d5 : Nat → Nat) (xs : Nat → Int32) : Nat → Nat → Nat := fun c => match c with | 0 => d0 | 1 => d1 | 2 => d2 | 3 => d3 | 4 => d4 | 300 => fun j => (xs j).toBitVec.toNat | _ => d5
theorem D9_K {c kk kv : Nat → Nat} {b L i : Nat} {d : Nat → Nat → Nat} (hi : i < 6) : kK (D9 c kk kv b L, d) i = kk i := by
  show D9 c kk kv b L (100 + i) = kk i
  exact D9_k hi
theorem D9_V {c kk kv : Nat → Nat} {b L i : Nat} {d : Nat → Nat → Nat} (hi : i < 6) : kV (D9 c kk kv b L, d) i = kv i := by
  show D9 c kk kv b L (200 + i) = kv i
  exact D9_v hi
theorem st_K {s : State} {args : Array Value} (hts : ∀ w ∈ lw_tbl, w.before args s = true) (b L : Nat) (xs : Nat → Int32) (kk kv : Nat → Nat) : ∃ (D : va_G) (g : G0), va_K D cl0 (TY g) s ∧ (∀ i, i < 6 → kK D i = kk i) ∧ (∀ i, i < 6 → kV D i = kv i) ∧ scB D = b ∧ scL D = L ∧ ∀ j, scX D j = xs j := by
  have hU : ∀ w ∈ wU, w.before args s = true := fun w h => hts w (wU_tbl w h)
  obtain ⟨c0, d0, h0⟩ := u_known hU iX0 (hts _ tb_k0)
  obtain ⟨c1, d1, h1⟩ := u_known hU iX1 (hts _ tb_k1)
  obtain ⟨c2, d2, h2⟩ := u_known hU iX2 (hts _ tb_k2)
  obtain ⟨c3, d3, h3⟩ := u_known hU iX3 (hts _ tb_k3)
  obtain ⟨c4, d4, h4⟩ := u_known hU iJ0 (hts _ tb_k4)
  obtain ⟨c5, d5, h5⟩ := u_known hU iJ4 (hts _ tb_k5)
  obtain ⟨a0, k0, p0, e0, f0, t0⟩ := Cond.arrayClass_spec (hts _ tb_a_int)
  obtain ⟨a1, k1, p1, e1, f1, t1⟩ := Cond.arrayClass_spec (hts _ tb_a_char)
  obtain ⟨a2, k2, p2, e2, f2, t2⟩ := Cond.arrayClass_spec (hts _ tb_a_byte)
  obtain ⟨p5, a5, k5, e5, -, f5, t5, n5⟩ := Cond.arrayOver_spec (hts _ tb_ao)
  refine ⟨(D9 (c9 c0 c1 c2 c3 c4 c5) kk kv b L, d9 d0 d1 d2 d3 d4 d5 xs), (a0, a1, a2, a0, a0, a5), ⟨fun c q hq => ?_, fun k q hq => ?_⟩, fun i hi => D9_K hi, fun i hi => D9_V hi, rfl, rfl, fun j => i32_nat (xs j)⟩
  · rcases c with _ | _ | _ | _ | _ | _ | c
    · cases hq; exact h0
    · cases hq; exact h1
    · cases hq; exact h2
    · cases hq; exact h3
    · cases hq; exact h4
    · cases hq; exact h5
    · cases hq
  · rcases k with _ | _ | _ | _ | _ | _ | k
    · cases hq; exact ⟨fun n z => ⟨fun k h => (by cases h), k0, f0, p0, t0⟩, e0⟩
    · cases hq; exact ⟨fun n z => ⟨fun k h => (by cases h), k1, f1, p1, t1⟩, e1⟩
    · cases hq; exact ⟨fun n z => ⟨fun k h => (by cases h), k2, f2, p2, t2⟩, e2⟩
    · cases hq; exact ⟨fun n z => ⟨fun k h => (by cases h), k0, f0, p0, t0⟩, e0⟩
    · cases hq; exact ⟨fun n z => ⟨fun k h => (by cases h), k0, f0, p0, t0⟩, e0⟩
    · cases hq; exact ⟨fun n z => ⟨fun k h => (by cases h), k5, f5, p5, t5⟩, k5, p5, f5, t5, e5, n5⟩
    · cases hq
theorem st_N {s : State} {args : Array Value} (hgv : (Jvm.Cond.and given_1 narrow_1).before args s = true) : NcW s := by
  have hg : ∀ w ∈ gvL, w.before args s = true := flat_of_before _ hgv
  exact List.forall_mem_cons.mpr ⟨va_Nc.of (hg _ gv_n0), List.forall_mem_cons.mpr ⟨va_Nc.of (hg _ gv_n1), List.forall_mem_cons.mpr ⟨va_Nc.of (hg _ gv_n2), List.forall_mem_cons.mpr ⟨va_Nc.of (hg _ gv_n3), fun _ h => absurd h List.not_mem_nil⟩⟩⟩⟩
/-- the law's own texts, found at the start -/
theorem st_S {s : State} {args : Array Value} (hgv : (Jvm.Cond.and given_1 narrow_1).before args s = true) : ∃ kk kv : Nat → Nat, vk_S 6 ksLen ksByt kk kv (fun q => s.heap.size ≤ q) s s.heap ∧ ∀ i : Nat, i < 6 → (ksTm i).eval args s none [] s = some (.ref (kk i)) := by
  have hg : ∀ w ∈ gvL, w.before args s = true := flat_of_before _ hgv
  have hl : ∀ i, i < 6 → ksLen.getD i 0 ≤ 2 := fun i hi => by
    have key : ∀ a : Fin 6, ksLen.getD a.val 0 ≤ 2 := by decide +kernel
    exact key ⟨i, hi⟩
  refine vk_Sof (tm := ksTm) (fun i hi => by have := hl i hi; omega) (fun i hi => hg _ (List.mem_of_getElem? (gk_ex9 ⟨i, hi⟩))) (fun i hi => hg _ (List.mem_of_getElem? (gk_co9 ⟨i, hi⟩))) (fun i hi => hg _ (List.mem_of_getElem? (gk_ar9 ⟨i, hi⟩))) (fun i hi => hg _ (List.mem_of_getElem? (gk_le9 ⟨i, hi⟩))) (fun i hi j hj => ?_) (fun i j hi hj hne => ?_) (fun a h => Nat.not_le.mpr h)
  · have := hl i hi
    exact hg _ (List.mem_of_getElem? (gk_el9 ⟨i, hi⟩ ⟨j, by omega⟩ hj))
  · rcases Nat.lt_or_gt_of_ne hne with h | h
    · exact Or.inl (hg _ (List.mem_of_getElem? (gk_ne9 ⟨j, hj⟩ ⟨i, hi⟩ h)))
    · exact Or.inr (hg _ (List.mem_of_getElem? (gk_ne9 ⟨i, hi⟩ ⟨j, hj⟩ h)))
theorem st_SK {s : State} {args : Array Value} {D : va_G} {kk kv : Nat → Nat} {b L : Nat} {xs : Nat → Int32} (hts : ∀ w ∈ lw_tbl, w.before args s = true) (hgv : (Jvm.Cond.and given_1 narrow_1).before args s = true) (hS : vk_S 6 ksLen ksByt kk kv (fun q => s.heap.size ≤ q) s s.heap) (hev : ∀ i : Nat, i < 6 → (ksTm i).eval args s none [] s = some (.ref (kk i))) (hX : va_X b L xs s s.heap) (hbl : b < s.heap.size) (hL : L ≤ 260) (hk : ∀ i, i < 6 → kK D i = kk i) (hv : ∀ i, i < 6 → kV D i = kv i) (h1 : scB D = b) (h2 : scL D = L) (h3 : ∀ j, scX D j = xs j) : SK D (fun q => s.heap.size ≤ q) s s.heap := by
  refine ⟨⟨fun i hi => ?_, fun i j hi hj e => ?_⟩, fun q hq => ?_, ?_, by rw [h2]; exact hL, st_N hgv⟩
  · rw [hk i hi, hv i hi]
    exact hS.1 i hi
  · rw [hk i hi, hk j hj] at e
    exact hS.2 i j hi hj e
  · obtain ⟨a1, a2, a3⟩ := tb_ks q hq
    rw [hk _ a3]
    refine vk_R.of (hts _ a1) ?_
    rw [a2]
    exact hev _ a3
  · obtain ⟨scr, g1, g2, g3, g4, g5⟩ := hX
    rw [h1, h2]
    refine ⟨scr, g1, g2, g3, Nat.le_of_eq g4.symm, by rw [g4], fun j hj => ?_, Nat.not_le.mpr hbl⟩
    show scr.slots[j]? = some (Value.int (scX D j))
    rw [h3]
    exact g5 j hj
theorem st_E {s : State} {args : Array Value} {D : va_G} (hts : ∀ w ∈ lw_tbl, w.before args s = true) (hgv : (Jvm.Cond.and given_1 narrow_1).before args s = true) (hSK : SK D (fun q => s.heap.size ≤ q) s s.heap) : SBq D (fun q => s.heap.size ≤ q) s s.heap := by
  have hg : ∀ w ∈ gvL, w.before args s = true := flat_of_before _ hgv
  have hA : ∀ a : Nat, a < s.heap.size → ¬ s.heap.size ≤ a := fun a h => Nat.not_le.mpr h
  have hnw : ∀ w ∈ nwW, va_Nw w s := fun w h => va_Nw.of (nwK_tabs (List.mem_filter.mp h).2) (hts _ (List.mem_filter.mp h).1)
  have hSB : SBp (fun q => s.heap.size ≤ q) s s.heap := by
    refine ⟨va_Zof (hts _ tb_cs) (hts _ tb_ist) (va_eqt (hg _ gv_cs)) hA, ?_, ?_⟩
    · obtain ⟨t, h1, h2⟩ := va_Tof (N := 100) (f := dgOnes) (by decide) (hg _ gv_doa) (va_eqt (hg _ gv_dol)) (fun j hj => va_eqt (hg _ (List.mem_of_getElem? (gv_doe ⟨j, hj⟩)))) hA
      exact ⟨t, va_Zof (hts _ tb_do) (hts _ tb_iin) h1 hA, h2⟩
    · obtain ⟨t, h1, h2⟩ := va_Tof (N := 100) (f := dgTens) (by decide) (hg _ gv_dta) (va_eqt (hg _ gv_dtl)) (fun j hj => va_eqt (hg _ (List.mem_of_getElem? (gv_dte ⟨j, hj⟩)))) hA
      exact ⟨t, va_Zof (hts _ tb_dt) (hts _ tb_iin) h1 hA, h2⟩
  have hEv : Ev (fun q => s.heap.size ≤ q) s s.heap := by
    refine ⟨vx_Zqof (hts _ tb_us) (hts _ tb_ith) (hg _ gv_us) hA, vx_Zqof (hts _ tb_ss) (hts _ tb_ith) (hg _ gv_ss) hA, fun q hq => ?_, hSB, hnw⟩
    have hw := hts _ (tb_str q hq)
    obtain ⟨c3, k3, h3, -⟩ := Cond.instantiable_spec (hts _ tb_k3)
    have hq1 : q.1 = "BookmarkManager" := by
      have h : ∀ p ∈ strTab, p.1 = "BookmarkManager" := by decide +kernel
      exact h q hq
    have hcur : s.vm.findClass q.1 = some c3 := by
      rw [hq1]
      exact h3
    obtain ⟨k, cf, j, a, hk, -, -, -, hr, hev⟩ := Cond.stringRef_spec hcur hw
    exact ⟨a, vk_R.of hw hev⟩
  refine ⟨hSB, ⟨fun w hw => ?_, hSK⟩, hnw, va_AO.of (hts _ tb_ao), va_Zqof (hts _ tb_fm) (hts _ tb_ipr) (hg _ gv_fm) hA, hEv⟩
  rcases List.mem_cons.mp hw with rfl | hw
  · exact va_Nw.of rfl (sel_priv (by decide) (hts _ tb_k5) (hts _ tb_se) (hts _ tb_pe) (hts _ tb_qe))
  rcases List.mem_cons.mp hw with rfl | hw
  · exact va_Nw.of rfl (sel_priv (by decide) (hts _ tb_k5) (hts _ tb_sn) (hts _ tb_pn) (hts _ tb_qn))
  rcases List.mem_cons.mp hw with rfl | hw
  · exact va_Nw.of rfl (sel_priv (by decide) (hts _ tb_k5) (hts _ tb_sp) (hts _ tb_pp) (hts _ tb_qp))
  rcases List.mem_cons.mp hw with rfl | hw
  · exact va_Nw.of rfl (sel_priv (by decide) (hts _ tb_k5) (hts _ tb_sf) (hts _ tb_pf) (hts _ tb_qf))
  exact absurd hw List.not_mem_nil
