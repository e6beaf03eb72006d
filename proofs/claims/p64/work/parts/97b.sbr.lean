/-! ===== the law: its texts ===== -/
abbrev sbG (g : G0) (o q cap : Nat) (f : Nat → Int32) (ml : Int32) (T : List Nat) : va_W := sbW g (o, q) (cap, f, 0, ml, nI T.length)
theorem GT.nil : GT 16 (fun _ => 0) [] := ⟨by decide, Nat.zero_le _, sb_fit0, fun i c h => by cases h⟩
section SBROWS
variable {K : KT} {g : G0} {cells slots : Nat} {lv : List (Nat × Value)} {rest : List Value} {pc : Nat} {c : Nat × va_E} {X : va_W} {o q cap : Nat} {f : Nat → Int32} {ml : Int32} {T : List Nat}
theorem V_sbN (Lk : LKx K g) (h1 : decode cL_law pc = .ok (.new 158, 3)) (h2 : decode cL_law (pc + 3) = .ok (.dup, 1)) (h3 : decode cL_law (pc + 4) = .ok (.invokespecial 160, 3)) (hrm : (rest.map fun v => v.category).sum ≤ 7) (hr : cells + 2 ≤ 600516 ∧ slots + 20 ≤ 7283748) (kk : ∀ o q : Nat, V K (cells + 2) (slots + 20) ([c] ++ (sbG g o q 16 (fun _ => 0) 0 [] ++ X)) lv (.ref o :: rest) (pc + 7)) : V K cells slots ([c] ++ X) lv rest pc := by
  obtain ⟨C, hBA, hQ, hst, h23⟩ := id Lk
  refine V_newX C hBA nw_L_158 (pc + 3) (by show cells + 1 ≤ 600516; omega) (by show slots + 4 ≤ 7283748; omega) h1 rfl (fun o => ?_)
  refine V_fst (n := [(o, .inr (5, [.null, .int 0, .int 0, .int 0]))]) ?_
  refine V_dup C (pc + 4) h2 rfl rfl ?_
  refine V_callNi (as := []) (pre := [c]) (w0 := [(o, .inr (5, [.null, .int 0, .int 0, .int 0]))]) (post := X) (rest := .ref o :: rest) C hBA hQ lz_L_160 rfl im_L_160 c_J4_init h3 ⟨Nat.le_of_ble_eq_true rfl, Nat.le_of_ble_eq_true rfl⟩ rfl rfl rfl (by show 1 + (rest.map fun v => v.category).sum ≤ 8; omega) ⟨by show cells + 1 + 1 ≤ 600516; omega, by show slots + 4 + 16 ≤ 7283748; omega⟩ (fun rv w1 hP => ?_)
  obtain ⟨rfl, q, rfl⟩ := hP
  exact kk o q
theorem V_sbI (Lk : LKx K g) (hG : GT cap f T) (hl : T.length + 2 ≤ 200) {v : Nat} (hv : v < 100) (h1 : decode cL_law pc = .ok (.invokevirtual 161, 3)) (hrm : (rest.map fun v => v.category).sum ≤ 8) (hr : cells + 1 ≤ 600516 ∧ slots + 410 ≤ 7283748) (kk : ∀ (q2 cap2 : Nat) (f2 : Nat → Int32), GT cap2 f2 (T ++ digs v) → V K (cells + 1) (slots + 410) ([c] ++ (sbG g o q2 cap2 f2 ml (T ++ digs v) ++ X)) lv (.ref o :: rest) (pc + 3)) : V K cells slots ([c] ++ (sbG g o q cap f ml T ++ X)) lv (.int (nI v) :: .ref o :: rest) pc := by
  obtain ⟨C, hBA, hQ, hst, h23⟩ := id Lk
  refine V_callN (as := [.int (nI v)]) (pre := [c]) (w0 := sbG g o q cap f ml T) (post := X) (rest := rest) C hBA hQ ml_L_161 (c_gapi hG.2.2.1 hG.1 hG.2.1 hl hv) 1 h1 ⟨Nat.le_of_ble_eq_true rfl, Nat.le_of_ble_eq_true rfl⟩ rfl rfl rfl rfl hrm hr (fun rv w1 hP => ?_)
  obtain ⟨rfl, q2, cap2, f2, rfl, e1, e2, e3, e4, e5⟩ := hP
  have k9 := kk q2 cap2 f2 (GT.app hG.2.2 e1 (by rw [digs_len]; exact e2) e3 (digs_asc hv e4) e5)
  unfold sbG at k9
  rw [List.length_append, digs_len] at k9
  exact k9
/-- a text of the law's own is appended: ldc, append -/
theorem V_sbK (Lk : LKx K g) (hG : GT cap f T) (hl : T.length + 2 ≤ 200) {i : Nat} (hi : i < 6) (h1 : decode cL_law pc = .ok (.invokevirtual 167, 3)) (hrm : (rest.map fun v => v.category).sum ≤ 8) (hr : cells + 1 ≤ 600516 ∧ slots + 410 ≤ 7283748) (kk : ∀ (q2 cap2 : Nat) (f2 : Nat → Int32), GT cap2 f2 (T ++ ksT i) → V K (cells + 1) (slots + 410) ([c] ++ (sbG g o q2 cap2 f2 ml (T ++ ksT i) ++ X)) lv (.ref o :: rest) (pc + 3)) : V K cells slots ([c] ++ (sbG g o q cap f ml T ++ X)) lv (.ref (kK (kD K) i) :: .ref o :: rest) pc := by
  obtain ⟨C, hBA, hQ, hst, h23⟩ := id Lk
  have hk2 : ksLen.getD i 0 ≤ 2 := by
    have key : ∀ a : Fin 6, ksLen.getD a.val 0 ≤ 2 := by decide +kernel
    exact key ⟨i, hi⟩
  refine V_callN (as := [.ref (kK (kD K) i)]) (pre := [c]) (w0 := sbG g o q cap f ml T) (post := X) (rest := rest) C hBA hQ ml_L_167 (c_gapsK hi hG.2.2.1 hG.1 hG.2.1 (by omega)) 1 h1 ⟨Nat.le_of_ble_eq_true rfl, Nat.le_of_ble_eq_true rfl⟩ rfl rfl rfl rfl hrm hr (fun rv w1 hP => ?_)
  obtain ⟨rfl, q2, cap2, f2, rfl, e1, e2, e3, e4, e5⟩ := hP
  have hn := ks_len hi
  have k9 := kk q2 cap2 f2 (GT.app hG.2.2 e1 (by rw [← hn]; exact e2) e3 (fun j ch hj => by
    obtain ⟨a1, a2, a3⟩ := ks_at hi hj
    exact ⟨(e4 j a3).trans a1, a2⟩) e5)
  unfold sbG at k9
  rw [List.length_append, ← hn] at k9
  exact k9
/-- a text that the law has made is appended -/
theorem V_sbS (Lk : LKx K g) (hG : GT cap f T) {s : Nat × Nat} {U : List Nat} {fs : Nat → Int32} {Y : va_W} (hU : ST fs U) (hl : T.length + U.length ≤ 200) (h1 : decode cL_law pc = .ok (.invokevirtual 167, 3)) (hrm : (rest.map fun v => v.category).sum ≤ 8) (hr : cells + 1 ≤ 600516 ∧ slots + 410 ≤ 7283748) (kk : ∀ (q2 cap2 : Nat) (f2 : Nat → Int32), GT cap2 f2 (T ++ U) → V K (cells + 1) (slots + 410) ([c] ++ (sbG g o q2 cap2 f2 ml (T ++ U) ++ (strW g s U.length fs ++ Y))) lv (.ref o :: rest) (pc + 3)) : V K cells slots ([c] ++ (sbG g o q cap f ml T ++ (strW g s U.length fs ++ Y))) lv (.ref s.1 :: .ref o :: rest) pc := by
  obtain ⟨C, hBA, hQ, hst, h23⟩ := id Lk
  refine V_callN (as := [.ref s.1]) (pre := [c]) (w0 := sbG g o q cap f ml T ++ strW g s U.length fs) (post := Y) (rest := rest) C hBA hQ ml_L_167 (c_gaps hU.1 hG.2.2.1 hG.1 hG.2.1 hl) 1 h1 ⟨Nat.le_of_ble_eq_true rfl, Nat.le_of_ble_eq_true rfl⟩ rfl rfl rfl rfl hrm hr (fun rv w1 hP => ?_)
  obtain ⟨rfl, q2, cap2, f2, rfl, e1, e2, e3, e4, e5⟩ := hP
  have k9 := kk q2 cap2 f2 (GT.app hG.2.2 e1 e2 e3 (fun j ch hj => by
    obtain ⟨a1, a2⟩ := hU.2 j ch hj
    exact ⟨(e4 j (lt_get hj)).trans a1, a2⟩) e5)
  unfold sbG at k9
  rw [List.length_append] at k9
  exact k9
/-- the text is done; what stood between is left behind -/
theorem V_sbT (Lk : LKx K g) (hG : GT cap f T) {Z Y : va_W} (h1 : decode cL_law pc = .ok (.invokevirtual 170, 3)) (hl : T.length ≤ 200) (hrm : (rest.map fun v => v.category).sum ≤ 8) (hr : cells + 2 ≤ 600516 ∧ slots + 204 ≤ 7283748) (kk : ∀ (s : Nat × Nat) (fs : Nat → Int32), ST fs T → V K (cells + 2) (slots + 204) ([c] ++ (strW g s T.length fs ++ Y)) lv (.ref s.1 :: rest) (pc + 3)) : V K cells slots ([c] ++ (sbG g o q cap f ml T ++ (Z ++ Y))) lv (.ref o :: rest) pc := by
  obtain ⟨C, hBA, hQ, hst, h23⟩ := id Lk
  refine V_callN (as := []) (pre := [c]) (w0 := sbG g o q cap f ml T) (post := Z ++ Y) (rest := rest) C hBA hQ ml_L_170 (c_gts hG.2.2.1 hG.2.1 hG.1) 1 h1 ⟨Nat.le_of_ble_eq_true rfl, Nat.le_of_ble_eq_true rfl⟩ rfl rfl rfl rfl hrm ⟨hr.1, by show slots + (T.length + 4) ≤ 7283748; omega⟩ (fun rv w1 hP => ?_)
  obtain ⟨s, f2, rfl, rfl, e1, e2⟩ := hP
  refine V_widen (c2 := cells + 2) (s2 := slots + 204) (Nat.le_refl _) (by omega) ?_
  exact V_keep (h := [c]) (a := strW g s T.length f2) (b := sbG g o q cap f ml T) (c := Z) (d := Y) (kk s f2 ⟨e2, fun i ch hi => by
    obtain ⟨a1, a2⟩ := hG.2.2.2 i ch hi
    exact ⟨(e1 i (lt_get hi)).trans a1, a2⟩⟩)
/-- the output is this text -/
theorem V_line (Lk : LKx K g) {A : XA} {x : XV} {sb : SbV} {s : Nat × Nat} {fs : Nat → Int32} (hT : SBT sb T) (hl : T.length ≤ 200) (hU : ST fs T) (h1 : decode cL_law pc = .ok (.invokestatic 211, 3)) (hrm : (rest.map fun v => v.category).sum ≤ 8) (hr : cells ≤ 600516 ∧ slots ≤ 7283748) (kk : V K cells slots ([c] ++ (xW g (aS A q) (xS x sb) ++ [])) lv (.int 1 :: rest) (pc + 3)) : V K cells slots ([c] ++ (strW g s T.length fs ++ (xW g (aS A q) (xS x sb) ++ []))) lv (.ref s.1 :: .int (nI T.length) :: .ref A.1 :: rest) pc := by
  obtain ⟨C, hBA, hQ, hst, h23⟩ := id Lk
  refine V_callNs (as := [.ref A.1, .int (nI T.length), .ref s.1]) (pre := [c]) (w0 := strW g s T.length fs ++ (xW g (aS A q) (xS x sb) ++ [])) (post := []) (rest := rest) C hBA hQ lz_L_211 st_L_isLine (c_L_isLine hT hl hU.2) h1 ⟨Nat.le_of_ble_eq_true rfl, Nat.le_of_ble_eq_true rfl⟩ rfl (congrArg (fun z => [c] ++ z) (List.append_nil (strW g s T.length fs ++ (xW g (aS A q) (xS x sb) ++ []))).symm) rfl hrm hr (fun rv w1 hP => ?_)
  obtain ⟨rfl, rfl⟩ := hP
  refine V_eq (ws2 := [c] ++ (strW g s T.length fs ++ (xW g (aS A q) (xS x sb) ++ []))) (congrArg (fun z => [c] ++ z) (List.append_nil (strW g s T.length fs ++ (xW g (aS A q) (xS x sb) ++ [])))) ?_
  exact V_rm kk
end SBROWS
