/-! ===== the law: what it makes ===== -/
theorem k1267 : Cond.classLink "BookmarkManagerLaw" 158 "java/lang/StringBuilder" ∈ wU := mU 1267 (by decide +kernel) (by decide +kernel)
theorem k39 : Cond.classLink "BookmarkManagerLaw" 14 "BookmarkManager" ∈ wU := mU 39 (by decide +kernel) (by decide +kernel)
theorem k40 : Cond.instantiable "BookmarkManager" 11 ∈ wU := mU 40 (by decide +kernel) (by decide +kernel)
theorem nw_L_158 : NW RL 158 5 [.null, .int 0, .int 0, .int 0] 4 := ⟨RJ4, TJ4, tyJ4, rfl, iJ4, tyJ4_ok, k1267, q206, q61, by decide +kernel⟩
theorem nw_L_14 : NW RL 14 3 [.null, .null, .null, .null, .null, .null, .int 0, .int 0, .int 0, .int 0, .int 0] 11 := ⟨RX3, TX3, tyX3, rfl, iX3, tyX3_ok, k39, k40, q56, by decide +kernel⟩
