/-! ===== what the start gives ===== -/
def gvL : List Cond := flatC (Jvm.Cond.and given_1 narrow_1)
theorem gv_cs : Cond.eq (.static "java/lang/String" "COMPACT_STRINGS" "Z") (.int 1) ∈ gvL := List.mem_of_getElem? (i := 4) (by decide +kernel)
theorem gv_fm : Cond.isRef (.static "jdk/internal/util/Preconditions" "SIOOBE_FORMATTER" "Ljava/util/function/BiFunction;") ∈ gvL := List.mem_of_getElem? (i := 5) (by decide +kernel)
theorem gv_us : Cond.isRef (.static Bundle.tN "UNASSIGNED_STACK" Bundle.steD) ∈ gvL := List.mem_of_getElem? (i := 215) (by decide +kernel)
theorem gv_ss : Cond.isRef (.static Bundle.tN "SUPPRESSED_SENTINEL" Bundle.listD) ∈ gvL := List.mem_of_getElem? (i := 216) (by decide +kernel)
theorem gv_doa : Cond.arrayOf (.static "java/lang/Integer" "DigitOnes" "[B") .byte ∈ gvL := List.mem_of_getElem? (i := 10) (by decide +kernel)
theorem gv_dol : Cond.eq (.length (.static "java/lang/Integer" "DigitOnes" "[B")) (.int 100) ∈ gvL := List.mem_of_getElem? (i := 11) (by decide +kernel)
theorem gv_doe : ∀ j : Fin 100, gvL[12 + j.val]? = some (Cond.eq (.elem (.static "java/lang/Integer" "DigitOnes" "[B") (.int (Int32.ofNat j.val))) (.int (Int32.ofNat (48 + j.val % 10)))) := by decide +kernel
theorem gv_dta : Cond.arrayOf (.static "java/lang/Integer" "DigitTens" "[B") .byte ∈ gvL := List.mem_of_getElem? (i := 113) (by decide +kernel)
theorem gv_dtl : Cond.eq (.length (.static "java/lang/Integer" "DigitTens" "[B")) (.int 100) ∈ gvL := List.mem_of_getElem? (i := 114) (by decide +kernel)
theorem gv_dte : ∀ j : Fin 100, gvL[115 + j.val]? = some (Cond.eq (.elem (.static "java/lang/Integer" "DigitTens" "[B") (.int (Int32.ofNat j.val))) (.int (Int32.ofNat (48 + j.val / 10)))) := by decide +kernel
theorem gv_n0 : Cond.not (.castable "java/lang/IllegalArgumentException" "java/lang/IndexOutOfBoundsException") ∈ gvL := List.mem_of_getElem? (i := 223) (by decide +kernel)
theorem gv_n1 : Cond.not (.castable "java/lang/UnsupportedOperationException" "java/lang/IndexOutOfBoundsException") ∈ gvL := List.mem_of_getElem? (i := 224) (by decide +kernel)
theorem gv_n2 : Cond.not (.castable "java/lang/UnsupportedOperationException" "java/lang/IllegalArgumentException") ∈ gvL := List.mem_of_getElem? (i := 237) (by decide +kernel)
theorem gv_n3 : Cond.not (.castable "java/util/NoSuchElementException" "java/lang/IndexOutOfBoundsException") ∈ gvL := List.mem_of_getElem? (i := 225) (by decide +kernel)
theorem gv_n4 : Cond.not (.castable "java/lang/IllegalStateException" "java/lang/IllegalArgumentException") ∈ gvL := List.mem_of_getElem? (i := 242) (by decide +kernel)
theorem gv_n5 : Cond.not (.castable "java/lang/UnsupportedOperationException" "java/lang/IllegalStateException") ∈ gvL := List.mem_of_getElem? (i := 294) (by decide +kernel)
theorem tb_cs : Cond.laysStatic "java/lang/String" "COMPACT_STRINGS" "Z" ∈ lw_tbl := List.mem_of_getElem? (i := 215) (by decide +kernel)
theorem tb_fm : Cond.laysStatic "jdk/internal/util/Preconditions" "SIOOBE_FORMATTER" "Ljava/util/function/BiFunction;" ∈ lw_tbl := List.mem_of_getElem? (i := 487) (by decide +kernel)
theorem tb_do : Cond.laysStatic "java/lang/Integer" "DigitOnes" "[B" ∈ lw_tbl := List.mem_of_getElem? (i := 557) (by decide +kernel)
theorem tb_dt : Cond.laysStatic "java/lang/Integer" "DigitTens" "[B" ∈ lw_tbl := List.mem_of_getElem? (i := 559) (by decide +kernel)
theorem tb_us : Cond.laysStatic Bundle.tN "UNASSIGNED_STACK" Bundle.steD ∈ lw_tbl := List.mem_of_getElem? (i := 631) (by decide +kernel)
theorem tb_ss : Cond.laysStatic Bundle.tN "SUPPRESSED_SENTINEL" Bundle.listD ∈ lw_tbl := List.mem_of_getElem? (i := 633) (by decide +kernel)
theorem tb_ist : Cond.initialized "java/lang/String" ∈ lw_tbl := List.mem_of_getElem? (i := 62) (by decide +kernel)
theorem tb_iin : Cond.initialized "java/lang/Integer" ∈ lw_tbl := List.mem_of_getElem? (i := 82) (by decide +kernel)
theorem tb_ith : Cond.initialized "java/lang/Throwable" ∈ lw_tbl := List.mem_of_getElem? (i := 65) (by decide +kernel)
theorem tb_ipr : Cond.initialized "jdk/internal/util/Preconditions" ∈ lw_tbl := List.mem_of_getElem? (i := 79) (by decide +kernel)
theorem tb_ao : Cond.arrayOver (.object "BookmarkManager$Book") ∈ lw_tbl := List.mem_of_getElem? (i := 158) (by decide +kernel)
theorem tb_a_int : Cond.arrayClass .int ∈ lw_tbl := List.mem_of_getElem? (i := 150) (by decide +kernel)
theorem tb_a_char : Cond.arrayClass .char ∈ lw_tbl := List.mem_of_getElem? (i := 204) (by decide +kernel)
theorem tb_a_byte : Cond.arrayClass .byte ∈ lw_tbl := List.mem_of_getElem? (i := 237) (by decide +kernel)
theorem tb_a_long : Cond.arrayClass .long ∈ lw_tbl := List.mem_of_getElem? (i := 1985) (by decide +kernel)
theorem tb_a_double : Cond.arrayClass .double ∈ lw_tbl := List.mem_of_getElem? (i := 1986) (by decide +kernel)
theorem tb_k0 : Cond.instantiable "BookmarkManager$Book" 13 ∈ lw_tbl := List.mem_of_getElem? (i := 93) (by decide +kernel)
theorem tb_k1 : Cond.instantiable "BookmarkManager$History" 3 ∈ lw_tbl := List.mem_of_getElem? (i := 152) (by decide +kernel)
theorem tb_k2 : Cond.instantiable "BookmarkManager$Script" 7 ∈ lw_tbl := List.mem_of_getElem? (i := 172) (by decide +kernel)
theorem tb_k3 : Cond.instantiable "BookmarkManager" 11 ∈ lw_tbl := List.mem_of_getElem? (i := 85) (by decide +kernel)
theorem tb_k4 : Cond.instantiable "BookmarkManagerModel" 17 ∈ lw_tbl := List.mem_of_getElem? (i := 1496) (by decide +kernel)
theorem tb_k5 : Cond.instantiable "java/lang/StringBuilder" 4 ∈ lw_tbl := List.mem_of_getElem? (i := 206) (by decide +kernel)
theorem tb_str : ∀ q ∈ strTab, Cond.stringRef q.1 q.2.1 q.2.2 ∈ lw_tbl := by
  have h : ∀ p ∈ strTab.zip [826, 839, 907, 998, 1059, 1073, 1078, 1159, 1246, 1254, 1314, 1343, 1362, 1372, 1426, 1434, 1435, 1443, 1455, 1470, 1478, 1490], lw_tbl[p.2]? = some (Cond.stringRef p.1.1 p.1.2.1 p.1.2.2) := by decide +kernel
  intro q hq
  obtain ⟨k, hk⟩ := List.getElem?_of_mem hq
  have hkl := lt_get hk
  have hl : strTab.length = 22 := rfl
  have hz : ∃ j, (strTab.zip [826, 839, 907, 998, 1059, 1073, 1078, 1159, 1246, 1254, 1314, 1343, 1362, 1372, 1426, 1434, 1435, 1443, 1455, 1470, 1478, 1490])[k]? = some (q, j) := by
    refine ⟨[826, 839, 907, 998, 1059, 1073, 1078, 1159, 1246, 1254, 1314, 1343, 1362, 1372, 1426, 1434, 1435, 1443, 1455, 1470, 1478, 1490][k]'(by show k < 22; omega), ?_⟩
    rw [List.getElem?_zip_eq_some]
    exact ⟨hk, List.getElem?_eq_getElem _⟩
  obtain ⟨j, hj⟩ := hz
  exact List.mem_of_getElem? (h _ (List.mem_of_getElem? hj))
theorem tb_pe : Cond.privateMethod ⟨"java/lang/AbstractStringBuilder", "ensureCapacityInternal", "(I)V"⟩ ∈ lw_tbl := List.mem_of_getElem? (i := 435) (by decide +kernel)
theorem tb_qe : Cond.instanceMethod ⟨"java/lang/AbstractStringBuilder", "ensureCapacityInternal", "(I)V"⟩ ∈ lw_tbl := List.mem_of_getElem? (i := 436) (by decide +kernel)
theorem tb_se : Cond.sameMethod "java/lang/AbstractStringBuilder" "java/lang/AbstractStringBuilder" "ensureCapacityInternal" "(I)V" ∈ lw_tbl := List.mem_of_getElem? (i := 1990) (by decide +kernel)
theorem tb_pn : Cond.privateMethod ⟨"java/lang/AbstractStringBuilder", "newCapacity", "(I)I"⟩ ∈ lw_tbl := List.mem_of_getElem? (i := 439) (by decide +kernel)
theorem tb_qn : Cond.instanceMethod ⟨"java/lang/AbstractStringBuilder", "newCapacity", "(I)I"⟩ ∈ lw_tbl := List.mem_of_getElem? (i := 440) (by decide +kernel)
theorem tb_sn : Cond.sameMethod "java/lang/AbstractStringBuilder" "java/lang/AbstractStringBuilder" "newCapacity" "(I)I" ∈ lw_tbl := List.mem_of_getElem? (i := 1991) (by decide +kernel)
theorem st_K {s : State} {args : Array Value} (hts : ∀ w ∈ lw_tbl, w.before args s = true) : ∃ (D : va_G) (g : G0), va_K D cl0 (TY g) s := by
  have hU : ∀ w ∈ wU, w.before args s = true := fun w h => hts w (wU_tbl w h)
  obtain ⟨c0, d0, h0⟩ := u_known hU iX0 (hts _ tb_k0)
  obtain ⟨c1, d1, h1⟩ := u_known hU iX1 (hts _ tb_k1)
  obtain ⟨c2, d2, h2⟩ := u_known hU iX2 (hts _ tb_k2)
  obtain ⟨c3, d3, h3⟩ := u_known hU iX3 (hts _ tb_k3)
  obtain ⟨c4, d4, h4⟩ := u_known hU iX4 (hts _ tb_k4)
  obtain ⟨c5, d5, h5⟩ := u_known hU iJ4 (hts _ tb_k5)
  obtain ⟨a0, k0, p0, e0, f0, t0⟩ := Cond.arrayClass_spec (hts _ tb_a_int)
  obtain ⟨a1, k1, p1, e1, f1, t1⟩ := Cond.arrayClass_spec (hts _ tb_a_char)
  obtain ⟨a2, k2, p2, e2, f2, t2⟩ := Cond.arrayClass_spec (hts _ tb_a_byte)
  obtain ⟨a3, k3, p3, e3, f3, t3⟩ := Cond.arrayClass_spec (hts _ tb_a_long)
  obtain ⟨a4, k4, p4, e4, f4, t4⟩ := Cond.arrayClass_spec (hts _ tb_a_double)
  obtain ⟨p5, a5, k5, e5, -, f5, t5, n5⟩ := Cond.arrayOver_spec (hts _ tb_ao)
  refine ⟨(fun c => match c with | 0 => c0 | 1 => c1 | 2 => c2 | 3 => c3 | 4 => c4 | _ => c5, fun c => match c with | 0 => d0 | 1 => d1 | 2 => d2 | 3 => d3 | 4 => d4 | _ => d5), (a0, a1, a2, a3, a4, a5), fun c q hq => ?_, fun k q hq => ?_⟩
  · rcases c with _ | _ | _ | _ | _ | _ | c
    · cases hq; exact h0
    · cases hq; exact h1
    · cases hq; exact h2
    · cases hq; exact h3
    · cases hq; exact h4
    · cases hq; exact h5
    · cases hq
  · rcases k with _ | _ | _ | _ | _ | _ | k
    · cases hq; exact ⟨fun n z => ⟨fun k h => (by cases h), k0, f0, p0, t0⟩, e0⟩
    · cases hq; exact ⟨fun n z => ⟨fun k h => (by cases h), k1, f1, p1, t1⟩, e1⟩
    · cases hq; exact ⟨fun n z => ⟨fun k h => (by cases h), k2, f2, p2, t2⟩, e2⟩
    · cases hq; exact ⟨fun n z => ⟨fun k h => (by cases h), k3, f3, p3, t3⟩, e3⟩
    · cases hq; exact ⟨fun n z => ⟨fun k h => (by cases h), k4, f4, p4, t4⟩, e4⟩
    · cases hq; exact ⟨fun n z => ⟨fun k h => (by cases h), k5, f5, p5, t5⟩, k5, p5, f5, t5, e5, n5⟩
    · cases hq
theorem st_E {s : State} {args : Array Value} (hts : ∀ w ∈ lw_tbl, w.before args s = true) (hgv : (Jvm.Cond.and given_1 narrow_1).before args s = true) : SBq (fun q => s.heap.size ≤ q) s s.heap := by
  have hg : ∀ w ∈ gvL, w.before args s = true := flat_of_before _ hgv
  have hA : ∀ a : Nat, a < s.heap.size → ¬ s.heap.size ≤ a := fun a h => Nat.not_le.mpr h
  have hnw : ∀ w ∈ nwW, va_Nw w s := fun w h => va_Nw.of (nwK_tabs (List.mem_filter.mp h).2) (hts _ (List.mem_filter.mp h).1)
  have hSB : SBp (fun q => s.heap.size ≤ q) s s.heap := by
    refine ⟨va_Zof (hts _ tb_cs) (hts _ tb_ist) (va_eqt (hg _ gv_cs)) hA, ?_, ?_⟩
    · obtain ⟨t, h1, h2⟩ := va_Tof (N := 100) (f := dgOnes) (by decide) (hg _ gv_doa) (va_eqt (hg _ gv_dol)) (fun j hj => va_eqt (hg _ (List.mem_of_getElem? (gv_doe ⟨j, hj⟩)))) hA
      exact ⟨t, va_Zof (hts _ tb_do) (hts _ tb_iin) h1 hA, h2⟩
    · obtain ⟨t, h1, h2⟩ := va_Tof (N := 100) (f := dgTens) (by decide) (hg _ gv_dta) (va_eqt (hg _ gv_dtl)) (fun j hj => va_eqt (hg _ (List.mem_of_getElem? (gv_dte ⟨j, hj⟩)))) hA
      exact ⟨t, va_Zof (hts _ tb_dt) (hts _ tb_iin) h1 hA, h2⟩
  have hEv : Ev (fun q => s.heap.size ≤ q) s s.heap := by
    refine ⟨vx_Zqof (hts _ tb_us) (hts _ tb_ith) (hg _ gv_us) hA, vx_Zqof (hts _ tb_ss) (hts _ tb_ith) (hg _ gv_ss) hA, fun q hq => ?_, hSB, hnw⟩
    have hw := hts _ (tb_str q hq)
    obtain ⟨c3, k3, h3, -⟩ := Cond.instantiable_spec (hts _ tb_k3)
    have hq1 : q.1 = "BookmarkManager" := by
      have h : ∀ p ∈ strTab, p.1 = "BookmarkManager" := by decide +kernel
      exact h q hq
    have hcur : s.vm.findClass q.1 = some c3 := by
      rw [hq1]
      exact h3
    obtain ⟨k, cf, j, a, hk, -, -, -, hr, hev⟩ := Cond.stringRef_spec hcur hw
    exact ⟨a, vk_R.of hw hev⟩
  refine ⟨hSB, fun w hw => ?_, hnw, va_AO.of (hts _ tb_ao), va_Zqof (hts _ tb_fm) (hts _ tb_ipr) (hg _ gv_fm) hA, hEv⟩
  rcases List.mem_cons.mp hw with rfl | hw
  · exact va_Nw.of rfl (sel_priv (by decide) (hts _ tb_k5) (hts _ tb_se) (hts _ tb_pe) (hts _ tb_qe))
  rcases List.mem_cons.mp hw with rfl | hw
  · exact va_Nw.of rfl (sel_priv (by decide) (hts _ tb_k5) (hts _ tb_sn) (hts _ tb_pn) (hts _ tb_qn))
  exact absurd hw List.not_mem_nil
theorem st_N {s : State} {args : Array Value} (hgv : (Jvm.Cond.and given_1 narrow_1).before args s = true) : NcW s := by
  have hg : ∀ w ∈ gvL, w.before args s = true := flat_of_before _ hgv
  exact List.forall_mem_cons.mpr ⟨va_Nc.of (hg _ gv_n0), List.forall_mem_cons.mpr ⟨va_Nc.of (hg _ gv_n1), List.forall_mem_cons.mpr ⟨va_Nc.of (hg _ gv_n2), List.forall_mem_cons.mpr ⟨va_Nc.of (hg _ gv_n3), List.forall_mem_cons.mpr ⟨va_Nc.of (hg _ gv_n4), List.forall_mem_cons.mpr ⟨va_Nc.of (hg _ gv_n5), fun _ h => absurd h List.not_mem_nil⟩⟩⟩⟩⟩⟩
