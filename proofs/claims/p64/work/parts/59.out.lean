/-! ===== output: the text, and what writes to it ===== -/
def SBT (sb : SbV) (T : List Nat) : Prop := ∃ (cap : Nat) (f : Nat → Int32) (ml : Int32), sb = (cap, f, 0, ml, nI T.length) ∧ capOK cap ∧ T.length ≤ cap ∧ sb_Fit f ∧ ∀ (i c : Nat), T[i]? = some c → f i = nI c ∧ c < 128
def digs (v : Nat) : List Nat := if v < 10 then [48 + v] else [48 + v / 10, 48 + v % 10]
theorem digs_len (v : Nat) : (digs v).length = dgs v := by
  unfold digs dgs
  split <;> rfl
theorem digs_at {v i : Nat} (hv : v < 100) (hi : i < dgs v) : (digs v)[i]? = some (dgt v i) ∧ dgt v i < 128 := by
  unfold digs dgs dgt at *
  by_cases h : v < 10
  · rw [if_pos h] at hi
    rw [if_pos h, if_pos h]
    have e : i = 0 := by omega
    subst e
    exact ⟨rfl, by omega⟩
  · rw [if_neg h] at hi
    rw [if_neg h, if_neg h]
    rcases (show i = 0 ∨ i = 1 by omega) with e | e
    · subst e
      exact ⟨rfl, by rw [if_pos rfl]; omega⟩
    · subst e
      exact ⟨rfl, by rw [if_neg (by omega)]; omega⟩
theorem SBT.app {cap2 n : Nat} {f f2 : Nat → Int32} {ml : Int32} {T U : List Nat} (hn : n = T.length) (h : ∀ (i c : Nat), T[i]? = some c → f i = nI c ∧ c < 128) (h1 : capOK cap2) (h2 : n + U.length ≤ cap2) (h3 : ∀ i, i < n → f2 i = f i) (h4 : ∀ (i c : Nat), U[i]? = some c → f2 (n + i) = nI c ∧ c < 128) (h5 : sb_Fit f2) : SBT (cap2, f2, 0, ml, nI (n + U.length)) (T ++ U) := by
  subst hn
  refine ⟨cap2, f2, ml, by rw [List.length_append], h1, by rw [List.length_append]; exact h2, h5, fun i c hi => ?_⟩
  by_cases e : i < T.length
  · rw [List.getElem?_append_left e] at hi
    obtain ⟨a1, a2⟩ := h i c hi
    exact ⟨(h3 i e).trans a1, a2⟩
  · rw [List.getElem?_append_right (by omega)] at hi
    have := h4 _ c hi
    rw [show T.length + (i - T.length) = i by omega] at this
    exact this
/-- the manager with another text -/
def aS (A : XA) (q : Nat) : XA := (A.1, A.2.1, A.2.2.1, A.2.2.2.1, A.2.2.2.2.1, A.2.2.2.2.2.1, (A.2.2.2.2.2.2.1.1, q), A.2.2.2.2.2.2.2)
def xS (x : XV) (sb : SbV) : XV := (x.1, x.2.1, x.2.2.1, x.2.2.2.1, x.2.2.2.2.1, x.2.2.2.2.2.1, sb, x.2.2.2.2.2.2.2)
section OUTROWS
variable {K : KT} {cc : ByteArray} {rm : Room} {g : G0} {cells slots : Nat} {lv : List (Nat × Value)} {rest : List Value} {pc : Nat} {A : XA} {x : XV} {q : Nat} {sb : SbV} {T : List Nat}
theorem V_outC (C : KX K cc RX3 rm g) (hBA : kA K = kB K) (hE : SBq (kD K) (kA K) (ks K) (ks K).heap) (hT : SBT sb T) (hl : T.length + 1 ≤ 142) {k : Nat} (hk : k < 128) (hd : decode cc pc = .ok (.invokevirtual 234, 3)) (hd2 : decode cc (pc + 3) = .ok (.pop, 1)) (hR : 6 ≤ rm.frames ∧ 160 ≤ rm.locals) (hrm : (rest.map fun v => v.category).sum ≤ 8) (hroom : cells + 1 ≤ rm.cells ∧ slots + 142 ≤ rm.slots) (pc' : Nat) (hp : pc + 4 = pc')
    (kk : ∀ (q' : Nat) (sb' : SbV), SBT sb' (T ++ [k]) → V K (cells + 1) (slots + 142) (xW g (aS A q') (xS x sb')) lv rest pc') : V K cells slots (xW g (aS A q) (xS x sb)) lv (.int (nI k) :: .ref A.2.2.2.2.2.2.1.1 :: rest) pc := by
  subst hp
  obtain ⟨cap, f, ml, rfl, h1, h2, h3, h4⟩ := hT
  refine V_callN (as := [.int (nI k)]) (pre := mgW (aS A q) x.1 ++ (bkW g A.2.1 x.2.1 ++ (bkW g A.2.2.1 x.2.2.1 ++ (bkW g A.2.2.2.1 x.2.2.2.1 ++ (hsW g A.2.2.2.2.1 A.2.2.2.2.2.2.2 x.2.2.2.2.1 ++ scW g A.2.2.2.2.2.1 x.2.2.2.2.2.1))))) (w0 := sbW g (A.2.2.2.2.2.2.1.1, q) (cap, f, 0, ml, nI T.length)) (post := hbW g A.2.2.2.2.2.2.2 x.2.2.2.2.2.2.2) (rest := rest) C hBA hE ml_X3_234 (c_japc h3 h1 h2 hl hk) 29 hd ⟨hR.1, by have := hR.2; omega⟩ rfl rfl rfl rfl hrm hroom (fun rv w1 hP => ?_)
  obtain ⟨rfl, q2, cap2, f2, rfl, g1, g2, g3, g4, g5⟩ := hP
  refine V_pop C (pc + 4) hd2 rfl rfl ?_
  exact kk q2 _ (SBT.app (U := [k]) rfl h4 g1 g2 g3 (fun i c hi => by
    have hi0 : i = 0 := by have := lt_get hi; simp at this; omega
    subst hi0
    cases hi
    exact ⟨g4, hk⟩) g5)
theorem V_outI (C : KX K cc RX3 rm g) (hBA : kA K = kB K) (hE : SBq (kD K) (kA K) (ks K) (ks K).heap) (hT : SBT sb T) (hl : T.length + 2 ≤ 142) {v : Nat} (hv : v < 100) (hd : decode cc pc = .ok (.invokevirtual 230, 3)) (hd2 : decode cc (pc + 3) = .ok (.pop, 1)) (hR : 6 ≤ rm.frames ∧ 160 ≤ rm.locals) (hrm : (rest.map fun v => v.category).sum ≤ 8) (hroom : cells + 1 ≤ rm.cells ∧ slots + 142 ≤ rm.slots) (pc' : Nat) (hp : pc + 4 = pc')
    (kk : ∀ (q' : Nat) (sb' : SbV), SBT sb' (T ++ digs v) → V K (cells + 1) (slots + 142) (xW g (aS A q') (xS x sb')) lv rest pc') : V K cells slots (xW g (aS A q) (xS x sb)) lv (.int (nI v) :: .ref A.2.2.2.2.2.2.1.1 :: rest) pc := by
  subst hp
  obtain ⟨cap, f, ml, rfl, h1, h2, h3, h4⟩ := hT
  refine V_callN (as := [.int (nI v)]) (pre := mgW (aS A q) x.1 ++ (bkW g A.2.1 x.2.1 ++ (bkW g A.2.2.1 x.2.2.1 ++ (bkW g A.2.2.2.1 x.2.2.2.1 ++ (hsW g A.2.2.2.2.1 A.2.2.2.2.2.2.2 x.2.2.2.2.1 ++ scW g A.2.2.2.2.2.1 x.2.2.2.2.2.1))))) (w0 := sbW g (A.2.2.2.2.2.2.1.1, q) (cap, f, 0, ml, nI T.length)) (post := hbW g A.2.2.2.2.2.2.2 x.2.2.2.2.2.2.2) (rest := rest) C hBA hE ml_X3_230 (c_japi h3 h1 h2 hl hv) 29 hd ⟨hR.1, by have := hR.2; omega⟩ rfl rfl rfl rfl hrm hroom (fun rv w1 hP => ?_)
  obtain ⟨rfl, q2, cap2, f2, rfl, g1, g2, g3, g4, g5⟩ := hP
  refine V_pop C (pc + 4) hd2 rfl rfl ?_
  have e : dgs v = (digs v).length := (digs_len v).symm
  rw [e] at g2 g4 ⊢
  exact kk q2 _ (SBT.app (U := digs v) rfl h4 g1 g2 g3 (fun i c hi => by
    have hlt := lt_get hi
    obtain ⟨a1, a2⟩ := digs_at hv (show i < dgs v by rw [e]; exact hlt)
    rw [a1] at hi
    cases hi
    exact ⟨g4 i hlt, a2⟩) g5)
/-- the text is emptied -/
theorem V_outL (C : KX K cc RX3 rm g) (hBA : kA K = kB K) (hE : SBq (kD K) (kA K) (ks K) (ks K).heap) (hT : SBT sb T) (hd : decode cc pc = .ok (.invokevirtual 227, 3)) (hR : 6 ≤ rm.frames ∧ 160 ≤ rm.locals) (hrm : (rest.map fun v => v.category).sum ≤ 8) (hroom : cells + 1 ≤ rm.cells ∧ slots + 142 ≤ rm.slots) (pc' : Nat) (hp : pc + 3 = pc')
    (kk : ∀ (q' : Nat) (sb' : SbV), SBT sb' [] → V K (cells + 1) (slots + 142) (xW g (aS A q') (xS x sb')) lv rest pc') : V K cells slots (xW g (aS A q) (xS x sb)) lv (.int 0 :: .ref A.2.2.2.2.2.2.1.1 :: rest) pc := by
  subst hp
  obtain ⟨cap, f, ml, rfl, h1, h2, h3, h4⟩ := hT
  have hc : cap ≤ 142 := by rcases h1 with h | h | h | h <;> omega
  refine V_callN (as := [.int (nI 0)]) (pre := mgW (aS A q) x.1 ++ (bkW g A.2.1 x.2.1 ++ (bkW g A.2.2.1 x.2.2.1 ++ (bkW g A.2.2.2.1 x.2.2.2.1 ++ (hsW g A.2.2.2.2.1 A.2.2.2.2.2.2.2 x.2.2.2.2.1 ++ scW g A.2.2.2.2.2.1 x.2.2.2.2.2.1))))) (w0 := sbW g (A.2.2.2.2.2.2.1.1, q) (cap, f, 0, ml, nI T.length)) (post := hbW g A.2.2.2.2.2.2.2 x.2.2.2.2.2.2.2) (rest := rest) C hBA hE ml_X3_227 (c_jlen0 h3 h1 (by omega)) 29 hd ⟨hR.1, by have := hR.2; omega⟩ rfl rfl rfl rfl hrm hroom (fun rv w1 hP => ?_)
  obtain ⟨rfl, q2, cap2, f2, m2, rfl, g1, g2⟩ := hP
  exact kk q2 (cap2, f2, 0, m2, nI 0) ⟨cap2, f2, m2, rfl, g1, Nat.zero_le _, g2, fun i c hi => by cases hi⟩
/-- the text's length -/
theorem V_outN (C : KX K cc RX3 rm g) (hBA : kA K = kB K) (hE : SBq (kD K) (kA K) (ks K) (ks K).heap) (hT : SBT sb T) (hd : decode cc pc = .ok (.invokevirtual 244, 3)) (hR : 6 ≤ rm.frames ∧ 160 ≤ rm.locals) (hrm : (rest.map fun v => v.category).sum ≤ 8) (hroom : cells ≤ rm.cells ∧ slots ≤ rm.slots) (pc' : Nat) (hp : pc + 3 = pc')
    (kk : V K cells slots (xW g (aS A q) (xS x sb)) lv (.int (nI T.length) :: rest) pc') : V K cells slots (xW g (aS A q) (xS x sb)) lv (.ref A.2.2.2.2.2.2.1.1 :: rest) pc := by
  subst hp
  obtain ⟨cap, f, ml, rfl, h1, h2, h3, h4⟩ := hT
  refine V_callN (as := []) (pre := mgW (aS A q) x.1 ++ (bkW g A.2.1 x.2.1 ++ (bkW g A.2.2.1 x.2.2.1 ++ (bkW g A.2.2.2.1 x.2.2.2.1 ++ (hsW g A.2.2.2.2.1 A.2.2.2.2.2.2.2 x.2.2.2.2.1 ++ scW g A.2.2.2.2.2.1 x.2.2.2.2.2.1))))) (w0 := sbW g (A.2.2.2.2.2.2.1.1, q) (cap, f, 0, ml, nI T.length)) (post := hbW g A.2.2.2.2.2.2.2 x.2.2.2.2.2.2.2) (rest := rest) C hBA hE ml_X3_244 c_jcnt 29 hd ⟨by omega, by omega⟩ rfl rfl rfl rfl hrm hroom (fun rv w1 hP => ?_)
  obtain ⟨rfl, rfl⟩ := hP
  exact kk
/-- a letter of the text -/
theorem V_outAt (C : KX K cc RX3 rm g) (hBA : kA K = kB K) (hE : SBq (kD K) (kA K) (ks K) (ks K).heap) (hT : SBT sb T) {i c : Nat} (hi : T[i]? = some c) (hd : decode cc pc = .ok (.invokevirtual 252, 3)) (hR : 6 ≤ rm.frames ∧ 160 ≤ rm.locals) (hrm : (rest.map fun v => v.category).sum ≤ 8) (hroom : cells ≤ rm.cells ∧ slots ≤ rm.slots) (pc' : Nat) (hp : pc + 3 = pc')
    (kk : V K cells slots (xW g (aS A q) (xS x sb)) lv (.int (nI c) :: rest) pc') : V K cells slots (xW g (aS A q) (xS x sb)) lv (.int (nI i) :: .ref A.2.2.2.2.2.2.1.1 :: rest) pc := by
  subst hp
  obtain ⟨cap, f, ml, rfl, h1, h2, h3, h4⟩ := hT
  have hc : cap ≤ 142 := by rcases h1 with h | h | h | h <;> omega
  obtain ⟨a1, a2⟩ := h4 i c hi
  refine V_callN (as := [.int (nI i)]) (pre := mgW (aS A q) x.1 ++ (bkW g A.2.1 x.2.1 ++ (bkW g A.2.2.1 x.2.2.1 ++ (bkW g A.2.2.2.1 x.2.2.2.1 ++ (hsW g A.2.2.2.2.1 A.2.2.2.2.2.2.2 x.2.2.2.2.1 ++ scW g A.2.2.2.2.2.1 x.2.2.2.2.2.1))))) (w0 := sbW g (A.2.2.2.2.2.2.1.1, q) (cap, f, 0, ml, nI T.length)) (post := hbW g A.2.2.2.2.2.2.2 x.2.2.2.2.2.2.2) (rest := rest) C hBA hE ml_X3_252 (c_jat (lt_get hi) h2 (by omega) a1 a2) 29 hd ⟨by omega, by omega⟩ rfl rfl rfl rfl hrm hroom (fun rv w1 hP => ?_)
  obtain ⟨rfl, rfl⟩ := hP
  exact kk
end OUTROWS
