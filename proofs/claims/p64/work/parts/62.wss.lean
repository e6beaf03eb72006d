/-! ===== the seats are written ===== -/
def seatsT (u : Nat → List Nat) : Nat → List Nat
  | 0 => []
  | k + 1 => seatsT u k ++ (if k = 0 then [] else [44]) ++ u k
theorem seatsT_le {u : Nat → List Nat} (h : ∀ j, j < 5 → (u j).length ≤ 2) : ∀ k, k ≤ 5 → (seatsT u k).length ≤ 3 * k := by
  intro k
  induction k with
  | zero =>
    intro _
    exact Nat.le_refl _
  | succ k ih =>
    intro hk
    have h1 := ih (by omega)
    have h2 := h k (by omega)
    rw [seatsT, List.length_append, List.length_append]
    by_cases e : k = 0
    · rw [if_pos e]
      simp only [List.length_nil]
      omega
    · rw [if_neg e]
      simp only [List.length_cons, List.length_nil]
      omega
/-- what a seat's text is -/
def SeatU (v : BkV) (L : List M5) (u : Nat → List Nat) : Prop := ∀ j, j < 5 → (f_X0_slotInSeat v (nI j) = some (-1) ∧ u j = [45]) ∨ ∃ (i : Nat) (z : M5), f_X0_slotInSeat v (nI j) = some (nI i) ∧ L[i]? = some z ∧ u j = digs (mPg z)
theorem SeatU.le {v : BkV} {L : List M5} {u : Nat → List Nat} (h : SeatU v L u) : ∀ j, j < 5 → (u j).length ≤ 2 := fun j hj => by
  rcases h j hj with ⟨-, e⟩ | ⟨i, z, -, -, e⟩
  · rw [e]
    exact (show 1 ≤ 2 by decide)
  · rw [e]
    exact digs_le _
theorem c_wrSeats {l : Launch} {D : va_G} {g : G0} {A : XA} {x : XV} {q : Nat} {sb : SbV} {T : List Nat} {L : List M5} {u : Nat → List Nat} (h1 : hM x.2.1 L) (b : bL L) (hu : SeatU x.2.1 L u) (hT : SBT sb T) : CtN l D g yX3_writeSeats cX3_writeSeats 2 (some .int) (rmN 8 240 11 1562) (xW g (aS A q) (xS x sb)) [.ref A.1] (fun rv w1 => rv = some (.int (nI (seatsT u 5).length)) ∧ ∃ (q' : Nat) (sb' : SbV), w1 = xW g (aS A q') (xS x sb') ∧ SBT sb' (seatsT u 5)) 11 1562 := by
  refine CtN.of (by decide) (Nat.le_of_ble_eq_true rfl) ?_
  intro K C Z hBA el eD ekn
  subst el
  subst eD
  have hlt : ∀ i, i < 2 → i < kn K := fun i h => by rw [ekn]; exact h
  have hle := seatsT_le hu.le
  have key : ∀ d k q sb cells slots, k + d = 5 → SBT sb (seatsT u k) → cells + 2 * d ≤ 11 → slots + 284 * d ≤ 1562 → V K cells slots (xW g (aS A q) (xS x sb)) [(1, .int (nI k)), (0, .ref A.1)] [] 10 := by
    intro d
    induction d with
    | zero =>
      intro k q sb cells slots hk hT hc hs
      have e5 : k = 5 := by omega
      subst e5
      refine V_iload_n C 0 11 dX3_writeSeats_10 rfl rfl ?_
      refine V_iconst C (5 : Int32) 12 dX3_writeSeats_11 rfl rfl ?_
      refine V_icmp_ge C 40 15 dX3_writeSeats_12 rfl rfl (fun _ => ?_) (fun e => absurd (show (5 : Int32) ≤ nI 5 from Int32.le_refl _) e)
      refine V_aload_n C 1 41 dX3_writeSeats_40 rfl rfl ?_
      refine V_get C (v := .ref A.2.2.2.2.2.2.1.1) 0 44 fl_X3_39 dX3_writeSeats_41 rfl rfl rfl ?_
      refine V_outN C hBA Z.1 hT dX3_writeSeats_44 ⟨by decide, by decide⟩ (by exact (by decide : (0 : Nat) ≤ 8)) ⟨by show cells ≤ 11; omega, by show slots ≤ 1562; omega⟩ 47 rfl ?_
      exact V_nretI C Z rfl rfl ⟨rfl, q, sb, rfl, hT⟩ dX3_writeSeats_47 (by omega) (by omega)
    | succ d ih =>
      intro k q sb cells slots hk hT hc hs
      have hk5 : k < 5 := by omega
      have hlk := hle k (by omega)
      refine V_iload_n C 0 11 dX3_writeSeats_10 rfl rfl ?_
      refine V_iconst C (5 : Int32) 12 dX3_writeSeats_11 rfl rfl ?_
      refine V_icmp_ge C 40 15 dX3_writeSeats_12 rfl rfl (fun e => absurd e (show ¬ (5 : Int32) ≤ nI k from nI_ge (b := 5) hk5 (by decide))) (fun _ => ?_)
      refine V_iload_n C 0 16 dX3_writeSeats_15 rfl rfl ?_
      have tail : ∀ q sb cells slots, SBT sb (seatsT u k ++ (if k = 0 then [] else [44])) → cells + 2 * d + 1 ≤ 11 → slots + 284 * d + 142 ≤ 1562 → V K cells slots (xW g (aS A q) (xS x sb)) [(1, .int (nI k)), (0, .ref A.1)] [] 29 := by
        intro q sb cells slots hT hc hs
        have hl : (seatsT u k ++ (if k = 0 then [] else [44])).length + 8 ≤ 142 := by
          rw [List.length_append]
          by_cases e : k = 0
          · rw [if_pos e]
            simp only [List.length_nil]
            omega
          · rw [if_neg e]
            simp only [List.length_cons, List.length_nil]
            omega
        refine V_aload_n C 1 30 dX3_writeSeats_29 rfl rfl ?_
        refine V_iload_n C 0 31 dX3_writeSeats_30 rfl rfl ?_
        have ct : CtN (kl K) (kD K) g yX3_writeSeat cX3_writeSeat 3 none (rmN 7 200 1 142) (xW g (aS A q) (xS x sb)) [.ref A.1, .int (nI k)] (fun rv w1 => rv = none ∧ ∃ (q' : Nat) (sb' : SbV), w1 = xW g (aS A q') (xS x sb') ∧ SBT sb' (seatsT u (k + 1))) 1 142 := by
          rw [seatsT]
          rcases hu k hk5 with ⟨a1, a2⟩ | ⟨i, z, a1, a2, a3⟩
          · rw [a2]
            exact c_wrSeat0 a1 h1 b hT hl
          · rw [a3]
            exact c_wrSeat1 a1 a2 h1 b hT hl
        refine V_callN (as := [.int (nI k)]) (pre := []) (w0 := xW g (aS A q) (xS x sb)) (post := []) (rest := []) C hBA Z.1 ml_X3_247 ct 0 dX3_writeSeats_31 ⟨by decide, by decide⟩ rfl (by rw [List.nil_append, List.append_nil]) rfl rfl (by decide) ⟨by show cells + 1 ≤ 11; omega, by show slots + 142 ≤ 1562; omega⟩ (fun rv w1 hP => ?_)
        obtain ⟨rfl, q2, sb2, rfl, hT2⟩ := hP
        refine V_eq (ws2 := xW g (aS A q2) (xS x sb2)) (by rw [List.nil_append, List.append_nil]) ?_
        refine V_iinc C 0 (nI (k + 1)) 37 [(1, .int (nI (k + 1))), (0, .ref A.1)] dX3_writeSeats_34 rfl rfl (nI_1 k) (hlt 1 (by decide)) rfl ?_
        refine V_goto C 10 dX3_writeSeats_37 rfl ?_
        exact ih (k + 1) q2 sb2 (cells + 1) (slots + 142) (by omega) hT2 (by omega) (by omega)
      by_cases e0 : k = 0
      · refine V_if_le C 29 19 dX3_writeSeats_16 rfl rfl (fun _ => ?_) (fun e => absurd (show nI k ≤ 0 from by rw [e0]; exact Int32.le_refl _) e)
        exact tail q sb cells slots (by rw [if_pos e0, List.append_nil]; exact hT) (by omega) (by omega)
      · refine V_if_le C 29 19 dX3_writeSeats_16 rfl rfl (fun e => absurd ((nI_le0 (by omega)).mp e) e0) (fun _ => ?_)
        refine V_aload_n C 1 20 dX3_writeSeats_19 rfl rfl ?_
        refine V_get C (v := .ref A.2.2.2.2.2.2.1.1) 0 23 fl_X3_39 dX3_writeSeats_20 rfl rfl rfl ?_
        refine V_bipush C (nI 44) 25 dX3_writeSeats_23 rfl rfl ?_
        refine V_outC C hBA Z.1 hT (by omega) (show 44 < 128 by decide) dX3_writeSeats_25 dX3_writeSeats_28 ⟨by decide, by decide⟩ (by exact (by decide : (0 : Nat) ≤ 8)) ⟨by show cells + 1 ≤ 11; omega, by show slots + 142 ≤ 1562; omega⟩ 29 rfl (fun q2 sb2 hT2 => ?_)
        exact tail q2 sb2 (cells + 1) (slots + 142) (by rw [if_neg e0]; exact hT2) (by omega) (by omega)
  show V K 0 0 (xW g (aS A q) (xS x sb)) [(0, .ref A.1)] [] 0
  refine V_aload_n C 0 1 dX3_writeSeats_0 rfl rfl ?_
  refine V_get C (v := .ref A.2.2.2.2.2.2.1.1) 0 4 fl_X3_39 dX3_writeSeats_1 rfl rfl rfl ?_
  refine V_iconst C (0 : Int32) 5 dX3_writeSeats_4 rfl rfl ?_
  refine V_outL C hBA Z.1 hT dX3_writeSeats_5 ⟨by decide, by decide⟩ (by exact (by decide : (0 : Nat) ≤ 8)) ⟨by exact (by decide : 1 ≤ 11), by exact (by decide : 142 ≤ 1562)⟩ 8 rfl (fun q2 sb2 hT2 => ?_)
  refine V_iconst C (0 : Int32) 9 dX3_writeSeats_8 rfl rfl ?_
  refine V_istore_n C 10 [(1, .int (0 : Int32)), (0, .ref A.1)] dX3_writeSeats_9 rfl (hlt 1 (by decide)) rfl ?_
  exact key 5 0 q2 sb2 1 142 rfl hT2 (by decide) (by decide)
