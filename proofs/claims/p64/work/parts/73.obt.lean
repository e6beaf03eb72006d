/-! ===== the relation of the texts, as one text ===== -/
theorem OB.of {sb : SbV} {m : MdV} {T : List Nat} (h : SBT sb T) (hl : T.length ≤ 110) (hn : Md_outputSize m = nI T.length) (ho : OT (Md_output m) T) : OB sb m := by
  obtain ⟨cap, f, ml, rfl, h1, h2, h3, h4⟩ := h
  refine ⟨T.length, hl, h2, h1, ?_, rfl, h3, rfl, hn, fun i hi => ?_⟩
  · rcases h1 with h | h | h | h <;> (show cap ≤ 1000; omega)
  · have hz : T[i]? = some T[i] := List.getElem?_eq_getElem hi
    exact ⟨T[i], (h4 i _ hz).2, (h4 i _ hz).1, (ho i _ hz).1⟩
theorem OB.text {sb : SbV} {m : MdV} (h : OB sb m) : ∃ T : List Nat, T.length ≤ 110 ∧ SBT sb T ∧ Md_outputSize m = nI T.length ∧ OT (Md_output m) T := by
  obtain ⟨n, n1, n2, n3, n4, n5, n6, n7, n8, n9⟩ := h
  have hT : ((List.range n).map fun i => (Md_output m i).toInt.toNat).length = n := by rw [List.length_map, List.length_range]
  have at_ : ∀ (i c : Nat), ((List.range n).map fun i => (Md_output m i).toInt.toNat)[i]? = some c → i < n ∧ c < 128 ∧ Sb_value sb i = nI c ∧ Md_output m i = nI c := by
    intro i c hi
    have hlt := lt_get hi
    rw [hT] at hlt
    rw [List.getElem?_map, List.getElem?_range hlt] at hi
    have hc : (Md_output m i).toInt.toNat = c := Option.some.inj hi
    obtain ⟨ch, c1, c2, c3⟩ := n9 i hlt
    have e : ch = c := by
      rw [← hc, c3, nI_toInt (by omega)]
      exact (Int.toNat_natCast ch).symm
    subst e
    exact ⟨hlt, c1, c2, c3⟩
  refine ⟨(List.range n).map fun i => (Md_output m i).toInt.toNat, by rw [hT]; exact n1, ⟨Sb_cap sb, Sb_value sb, Sb_maybeLatin1 sb, ?_, n3, by rw [hT]; exact n2, n6, fun i c hi => ⟨(at_ i c hi).2.2.1, (at_ i c hi).2.1⟩⟩, by rw [hT]; exact n8, fun i c hi => ⟨(at_ i c hi).2.2.2, (at_ i c hi).2.1⟩⟩
  rw [hT, ← n5, ← n7]
