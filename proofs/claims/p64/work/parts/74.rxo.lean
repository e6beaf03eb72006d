/-! ===== output keeps the relation ===== -/
theorem RX.out {N : Nat} {x : XV} {m : MdV} {o : Nat → Int32} {T : List Nat} {sb' : SbV} (h : RX N x m) (hs : SBT sb' T) (hl : T.length ≤ 110) (ho : OT o T) : RX N (xS x sb') (mO (mTh m 0) o (nI T.length)) := by
  obtain ⟨h1, h2, h3, h4, h5, h6, h7⟩ := h
  exact ⟨h1, h2, h3, h4, h5, h6, OB.of hs hl rfl ho⟩
theorem rx_writeSeats {N : Nat} {x : XV} {m : MdV} (h : RX N x m) : ∃ (u : Nat → List Nat) (L : List M5) (m' : MdV), hM x.2.1 L ∧ bL L ∧ SeatU x.2.1 L u ∧ f_X4_writeSeats m = some (nI (seatsT u 5).length, m') ∧ Md_thrown m' = 0 ∧ ∀ sb', SBT sb' (seatsT u 5) → RX N (xS x sb') m' := by
  obtain ⟨L, L', S, r, nid, h1, h2, h3, h4, h5, -⟩ := h.1
  obtain ⟨u, g1, g2⟩ := seats_agree (m := mTh m 0) h1 h2 h3 h5
  have hle := seatsT_le g1.le
  obtain ⟨o', f1, f2⟩ := tm_writeSeats (m := mTh m 0) h2 (h5.perm h3).bL g2 hle
  refine ⟨u, L, _, h1, h5.bL, g1, f1, rfl, fun sb' hs => h.out hs ?_ f2⟩
  have := hle 5 (Nat.le_refl _)
  omega
/-- a letter of the text, in the model -/
theorem tm_outputAt {m : MdV} {T : List Nat} (hn : Md_outputSize m = nI T.length) (hl : T.length ≤ 110) (ho : OT (Md_output m) T) {i c : Nat} (hi : T[i]? = some c) : f_X4_outputAt m (nI i) = some (nI c, mTh m 0) := by
  have hlt := lt_get hi
  have hc := (ho i c hi).2
  unfold f_X4_outputAt f_X4_outputAt_B28
  have e : decide ((0 : Int32) ≤ nI i ∧ nI i ≤ Md_outputSize m - 1) = true := decide_eq_true ⟨nI_pos' (by omega), by
    rw [hn, show nI T.length - 1 = nI (T.length - 1) from pk_sub (b := 1) (by omega)]
    exact nI_le (by omega) (by omega)⟩
  rw [tm_in, bd_s, e, tm_isFine, bd_s]
  show (if (1 : Int32) = 0 then _ else gd (inb (nI i) 120) (gd (isc (Md_output m (cl (nI i)))) (some (Md_output m (cl (nI i)), mTh m 0)))) = _
  have hisc : isc (nI c) = true := by
    have key : ∀ z : Fin 128, isc (nI z.val) = true := by decide +kernel
    exact key ⟨c, hc⟩
  rw [if_neg (by decide), gd_n (by omega) (by decide), cl_n (by omega), (ho i c hi).1, gd_t hisc]
