/-! ===== the law: counts, totals, order ===== -/
set_option maxRecDepth 8000 in
set_option maxHeartbeats 4000000 in
theorem law_H1 {K : KT} {g : G0} {A : XA} {x : XV} {L : List M5} {S : List Nat} {nid r b cells slots h m : Nat} {f : Nat → Int32} {t : Int32} {cnt : Nat} (Lk : LKx K g) (hb : BK x L S nid r) (hr : cells ≤ 600500 ∧ slots ≤ 7283000) (h1 : 1 ≤ cnt) (h2 : cnt ≤ 20) (ke : V K cells slots ([(h, aI g 60 f)] ++ (xW g A x ++ [])) [(19, .int (nI (L.map (rk0 r cnt)).sum)), (18, .int (nI (L.map (rk1 r cnt)).sum)), (17, .int (nI cnt)), (10, .ref h), (9, .int (nI r)), (8, .int (nI m)), (7, .int (nI (wEar L))), (6, .int (nI (wRib L))), (5, .int (nI (nRib L))), (4, .int (nI S.length)), (3, .int (nI L.length)), (2, .int t), (1, .ref A.1), (0, .ref b)] [] 1250) : V K cells slots ([(h, aI g 60 f)] ++ (xW g A x ++ [])) [(20, .int (0 : Int32)), (19, .int (0 : Int32)), (18, .int (0 : Int32)), (17, .int (nI cnt)), (10, .ref h), (9, .int (nI r)), (8, .int (nI m)), (7, .int (nI (wEar L))), (6, .int (nI (wRib L))), (5, .int (nI (nRib L))), (4, .int (nI S.length)), (3, .int (nI L.length)), (2, .int t), (1, .ref A.1), (0, .ref b)] [] 1161 := by
  obtain ⟨C, hBA, hQ, hst, h23⟩ := id Lk
  have hlt : ∀ i, i < 23 → i < kn K := fun i h => by rw [h23]; exact h
  have hE := hQ.2.2.2.2.2
  have hN := hQ.sk.2.2.2.2
  obtain ⟨hr1, hr2⟩ := hr
  have hr60 := hb.2.2.2.2.2.1.1
  have hlen := hb.len
  have hpgs : ∀ z ∈ L, mPg z < 60 := fun z hz => (hb.mk hz).2.1
  have hwrs : ∀ z ∈ L, mSt z ≠ 0 → mWr z = 0 := fun z hz => (hb.mk hz).2.2.2.2.2
  have loop : ∀ d k, k + d = L.length → V K cells slots ([(h, aI g 60 f)] ++ (xW g A x ++ [])) [(20, .int (nI k)), (19, .int (nI ((L.take k).map (rk0 r cnt)).sum)), (18, .int (nI ((L.take k).map (rk1 r cnt)).sum)), (17, .int (nI cnt)), (10, .ref h), (9, .int (nI r)), (8, .int (nI m)), (7, .int (nI (wEar L))), (6, .int (nI (wRib L))), (5, .int (nI (nRib L))), (4, .int (nI S.length)), (3, .int (nI L.length)), (2, .int t), (1, .ref A.1), (0, .ref b)] [] 1161 := by
    intro d
    induction d with
    | zero =>
      intro k hk
      obtain rfl : k = L.length := by omega
      rw [List.take_length]
      refine V_iload C 0 1163 dL_law_1161 rfl rfl ?_
      refine V_iload_n C 11 1164 dL_law_1163 rfl rfl ?_
      refine V_icmp_ge C 1250 1167 dL_law_1164 rfl rfl (fun _ => ?_) (fun e => absurd (show nI L.length ≤ nI L.length from Int32.le_refl _) e)
      refine V_lv [1, 2, 3, 4, 5, 6, 7, 8, 9, 10, 11, 12, 13, 14] (lv' := [(19, .int (nI (L.map (rk0 r cnt)).sum)), (18, .int (nI (L.map (rk1 r cnt)).sum)), (17, .int (nI cnt)), (10, .ref h), (9, .int (nI r)), (8, .int (nI m)), (7, .int (nI (wEar L))), (6, .int (nI (wRib L))), (5, .int (nI (nRib L))), (4, .int (nI S.length)), (3, .int (nI L.length)), (2, .int t), (1, .ref A.1), (0, .ref b)]) rfl ?_
      exact ke
    | succ d ih =>
      intro k hk
      have hkl : k < L.length := by omega
      obtain ⟨z, hz⟩ : ∃ z, L[k]? = some z := ⟨L[k]'hkl, List.getElem?_eq_getElem _⟩
      have hzL := mem_get hz
      have hpg := hpgs z hzL
      have hwe := (hb.mk hzL).2.2.2.1
      have ek := take_k hz
      refine V_iload C 0 1163 dL_law_1161 rfl rfl ?_
      refine V_iload_n C 11 1164 dL_law_1163 rfl rfl ?_
      refine V_icmp_ge C 1250 1167 dL_law_1164 rfl rfl (fun e => absurd e (show ¬ nI L.length ≤ nI k from w_nle hkl)) (fun _ => ?_)
      refine V_aload_n C 13 1168 dL_law_1167 rfl rfl ?_
      refine V_iload C 0 1170 dL_law_1168 rfl rfl ?_
      refine V_callXr C hBA hE ml_L_72 (pre := [(h, aI g 60 f)]) (post := []) (wc := xW g A x) (w1 := xW g A x) (rv := some (.int (nI (mId z)))) (as := [.int (nI k)]) (rest := []) (c_X3_markByPage (R := .inl ((nI (mId z)), x)) hst (q_byPage hb hz)) 1 1173 ([(h, aI g 60 f)] ++ (xW g A x ++ [])) dL_law_1170 rfl ⟨Nat.le_of_ble_eq_true rfl, Nat.le_of_ble_eq_true rfl⟩ rfl rfl rfl (xW_fst _ _ _ _) rfl rfl rfl (Nat.le_of_ble_eq_true rfl) ⟨by show cells + 0 ≤ 600516; omega, by show slots + 0 ≤ 7283748; omega⟩ ?_
      refine V_istore C 1175 [(21, .int (nI (mId z))), (20, .int (nI k)), (19, .int (nI ((L.take k).map (rk0 r cnt)).sum)), (18, .int (nI ((L.take k).map (rk1 r cnt)).sum)), (17, .int (nI cnt)), (10, .ref h), (9, .int (nI r)), (8, .int (nI m)), (7, .int (nI (wEar L))), (6, .int (nI (wRib L))), (5, .int (nI (nRib L))), (4, .int (nI S.length)), (3, .int (nI L.length)), (2, .int t), (1, .ref A.1), (0, .ref b)] dL_law_1173 rfl (hlt 21 (by decide)) rfl ?_
      refine V_aload_n C 14 1176 dL_law_1175 rfl rfl ?_
      refine V_iload C 0 1178 dL_law_1176 rfl rfl ?_
      refine V_callXr C hBA hE ml_L_136 (pre := [(h, aI g 60 f)]) (post := []) (wc := xW g A x) (w1 := xW g A x) (rv := some (.int (nI (mPg z)))) (as := [.int (nI (mId z))]) (rest := []) (c_X3_pageOf (R := .inl ((nI (mPg z)), x)) hst (q_pageOf hb hzL)) 1 1181 ([(h, aI g 60 f)] ++ (xW g A x ++ [])) dL_law_1178 rfl ⟨Nat.le_of_ble_eq_true rfl, Nat.le_of_ble_eq_true rfl⟩ rfl rfl rfl (xW_fst _ _ _ _) rfl rfl rfl (Nat.le_of_ble_eq_true rfl) ⟨by show cells + 0 ≤ 600516; omega, by show slots + 0 ≤ 7283748; omega⟩ ?_
      refine V_iload C 6 1183 dL_law_1181 rfl rfl ?_
      refine V_isub C 1184 dL_law_1183 rfl ?_
      refine V_istore C 1186 [(22, .int ((nI (mPg z)) - (nI r))), (21, .int (nI (mId z))), (20, .int (nI k)), (19, .int (nI ((L.take k).map (rk0 r cnt)).sum)), (18, .int (nI ((L.take k).map (rk1 r cnt)).sum)), (17, .int (nI cnt)), (10, .ref h), (9, .int (nI r)), (8, .int (nI m)), (7, .int (nI (wEar L))), (6, .int (nI (wRib L))), (5, .int (nI (nRib L))), (4, .int (nI S.length)), (3, .int (nI L.length)), (2, .int t), (1, .ref A.1), (0, .ref b)] dL_law_1184 rfl (hlt 22 (by decide)) rfl ?_
      refine V_aload_n C 15 1187 dL_law_1186 rfl rfl ?_
      refine V_iload C 1 1189 dL_law_1187 rfl rfl ?_
      refine V_callXr C hBA hE ml_L_147 (pre := [(h, aI g 60 f)]) (post := []) (wc := xW g A x) (w1 := xW g A x) (rv := some (.int (nI (mWr z)))) (as := [.int (nI (mId z))]) (rest := []) (c_X3_wearOf (R := .inl ((nI (mWr z)), x)) hst (q_wearOf hb hzL)) 1 1192 ([(h, aI g 60 f)] ++ (xW g A x ++ [])) dL_law_1189 rfl ⟨Nat.le_of_ble_eq_true rfl, Nat.le_of_ble_eq_true rfl⟩ rfl rfl rfl (xW_fst _ _ _ _) rfl rfl rfl (Nat.le_of_ble_eq_true rfl) ⟨by show cells + 0 ≤ 600516; omega, by show slots + 0 ≤ 7283748; omega⟩ ?_
      refine V_iconst C (2 : Int32) 1193 dL_law_1192 rfl rfl ?_
      by_cases hw : 2 ≤ mWr z
      · refine V_icmp_ge C 1199 1196 dL_law_1193 rfl rfl (fun _ => ?_) (fun e => absurd (show (2 : Int32) ≤ nI (mWr z) from w_le (a := 2) hw) e)
        by_cases q1 : r < mPg z
        · by_cases q2 : mPg z ≤ r + cnt
          · refine V_iload C 4 1201 dL_law_1199 rfl rfl ?_
            refine V_iload C 0 1203 dL_law_1201 rfl rfl ?_
            refine V_if_le C 1217 1206 dL_law_1203 rfl rfl (fun e => absurd e (fun e => absurd ((wy_le (by omega) (by omega)).mp e) (by omega))) (fun _ => ?_)
            refine V_iload C 0 1208 dL_law_1206 rfl rfl ?_
            refine V_iload C 5 1210 dL_law_1208 rfl rfl ?_
            refine V_icmp_gt C 1217 1213 dL_law_1210 rfl rfl (fun e => absurd e (fun e => absurd ((wy_gt (by omega) (by omega) (by omega)).mp e) (by omega))) (fun _ => ?_)
            refine V_iconst C (1 : Int32) 1214 dL_law_1213 rfl rfl ?_
            refine V_goto C 1218 dL_law_1214 rfl ?_
            refine V_iadd C 1219 dL_law_1218 rfl ?_
            refine V_st (st2 := [.int (nI ((L.take (k + 1)).map (rk1 r cnt)).sum)]) (by rw [ek, sum_snoc, rk1_yes ⟨hw, by omega, by omega⟩, nI_1] <;> rfl) ?_
            refine V_istore C 1221 [(18, .int (nI ((L.take (k + 1)).map (rk1 r cnt)).sum)), (22, .int ((nI (mPg z)) - (nI r))), (21, .int (nI (mId z))), (20, .int (nI k)), (19, .int (nI ((L.take k).map (rk0 r cnt)).sum)), (17, .int (nI cnt)), (10, .ref h), (9, .int (nI r)), (8, .int (nI m)), (7, .int (nI (wEar L))), (6, .int (nI (wRib L))), (5, .int (nI (nRib L))), (4, .int (nI S.length)), (3, .int (nI L.length)), (2, .int t), (1, .ref A.1), (0, .ref b)] dL_law_1219 rfl (hlt 18 (by decide)) rfl ?_
            refine V_iload C 4 1223 dL_law_1221 rfl rfl ?_
            refine V_iload C 1 1225 dL_law_1223 rfl rfl ?_
            refine V_if_ge C 1240 1228 dL_law_1225 rfl rfl (fun _ => ?_) (fun e => absurd ((wy_ge (by omega) (by omega)).mpr (by omega)) e)
            refine V_iconst C (0 : Int32) 1241 dL_law_1240 rfl rfl ?_
            refine V_iadd C 1242 dL_law_1241 rfl ?_
            refine V_st (st2 := [.int (nI ((L.take (k + 1)).map (rk0 r cnt)).sum)]) (by rw [ek, sum_snoc, rk0_no (by omega), Nat.add_zero, Int32.add_zero] <;> rfl) ?_
            refine V_istore C 1244 [(19, .int (nI ((L.take (k + 1)).map (rk0 r cnt)).sum)), (18, .int (nI ((L.take (k + 1)).map (rk1 r cnt)).sum)), (22, .int ((nI (mPg z)) - (nI r))), (21, .int (nI (mId z))), (20, .int (nI k)), (17, .int (nI cnt)), (10, .ref h), (9, .int (nI r)), (8, .int (nI m)), (7, .int (nI (wEar L))), (6, .int (nI (wRib L))), (5, .int (nI (nRib L))), (4, .int (nI S.length)), (3, .int (nI L.length)), (2, .int t), (1, .ref A.1), (0, .ref b)] dL_law_1242 rfl (hlt 19 (by decide)) rfl ?_
            refine V_lv [4, 0, 1, 5, 6, 7, 8, 9, 10, 11, 12, 13, 14, 15, 16] (lv' := [(20, .int (nI k)), (19, .int (nI ((L.take (k + 1)).map (rk0 r cnt)).sum)), (18, .int (nI ((L.take (k + 1)).map (rk1 r cnt)).sum)), (17, .int (nI cnt)), (10, .ref h), (9, .int (nI r)), (8, .int (nI m)), (7, .int (nI (wEar L))), (6, .int (nI (wRib L))), (5, .int (nI (nRib L))), (4, .int (nI S.length)), (3, .int (nI L.length)), (2, .int t), (1, .ref A.1), (0, .ref b)]) rfl ?_
            refine V_iinc C 0 (nI (k + 1)) 1247 [(20, .int (nI (k + 1))), (19, .int (nI ((L.take (k + 1)).map (rk0 r cnt)).sum)), (18, .int (nI ((L.take (k + 1)).map (rk1 r cnt)).sum)), (17, .int (nI cnt)), (10, .ref h), (9, .int (nI r)), (8, .int (nI m)), (7, .int (nI (wEar L))), (6, .int (nI (wRib L))), (5, .int (nI (nRib L))), (4, .int (nI S.length)), (3, .int (nI L.length)), (2, .int t), (1, .ref A.1), (0, .ref b)] dL_law_1244 rfl rfl (nI_1 k) (hlt 20 (by decide)) rfl ?_
            refine V_goto C 1161 dL_law_1247 rfl ?_
            exact ih (k + 1) (by omega)
          · refine V_iload C 4 1201 dL_law_1199 rfl rfl ?_
            refine V_iload C 0 1203 dL_law_1201 rfl rfl ?_
            refine V_if_le C 1217 1206 dL_law_1203 rfl rfl (fun e => absurd e (fun e => absurd ((wy_le (by omega) (by omega)).mp e) (by omega))) (fun _ => ?_)
            refine V_iload C 0 1208 dL_law_1206 rfl rfl ?_
            refine V_iload C 5 1210 dL_law_1208 rfl rfl ?_
            refine V_icmp_gt C 1217 1213 dL_law_1210 rfl rfl (fun _ => ?_) (fun e => absurd ((wy_gt (by omega) (by omega) (by omega)).mpr (by omega)) e)
            refine V_iconst C (0 : Int32) 1218 dL_law_1217 rfl rfl ?_
            refine V_iadd C 1219 dL_law_1218 rfl ?_
            refine V_st (st2 := [.int (nI ((L.take (k + 1)).map (rk1 r cnt)).sum)]) (by rw [ek, sum_snoc, rk1_no (by omega), Nat.add_zero, Int32.add_zero] <;> rfl) ?_
            refine V_istore C 1221 [(18, .int (nI ((L.take (k + 1)).map (rk1 r cnt)).sum)), (22, .int ((nI (mPg z)) - (nI r))), (21, .int (nI (mId z))), (20, .int (nI k)), (19, .int (nI ((L.take k).map (rk0 r cnt)).sum)), (17, .int (nI cnt)), (10, .ref h), (9, .int (nI r)), (8, .int (nI m)), (7, .int (nI (wEar L))), (6, .int (nI (wRib L))), (5, .int (nI (nRib L))), (4, .int (nI S.length)), (3, .int (nI L.length)), (2, .int t), (1, .ref A.1), (0, .ref b)] dL_law_1219 rfl (hlt 18 (by decide)) rfl ?_
            refine V_iload C 4 1223 dL_law_1221 rfl rfl ?_
            refine V_iload C 1 1225 dL_law_1223 rfl rfl ?_
            refine V_if_ge C 1240 1228 dL_law_1225 rfl rfl (fun _ => ?_) (fun e => absurd ((wy_ge (by omega) (by omega)).mpr (by omega)) e)
            refine V_iconst C (0 : Int32) 1241 dL_law_1240 rfl rfl ?_
            refine V_iadd C 1242 dL_law_1241 rfl ?_
            refine V_st (st2 := [.int (nI ((L.take (k + 1)).map (rk0 r cnt)).sum)]) (by rw [ek, sum_snoc, rk0_no (by omega), Nat.add_zero, Int32.add_zero] <;> rfl) ?_
            refine V_istore C 1244 [(19, .int (nI ((L.take (k + 1)).map (rk0 r cnt)).sum)), (18, .int (nI ((L.take (k + 1)).map (rk1 r cnt)).sum)), (22, .int ((nI (mPg z)) - (nI r))), (21, .int (nI (mId z))), (20, .int (nI k)), (17, .int (nI cnt)), (10, .ref h), (9, .int (nI r)), (8, .int (nI m)), (7, .int (nI (wEar L))), (6, .int (nI (wRib L))), (5, .int (nI (nRib L))), (4, .int (nI S.length)), (3, .int (nI L.length)), (2, .int t), (1, .ref A.1), (0, .ref b)] dL_law_1242 rfl (hlt 19 (by decide)) rfl ?_
            refine V_lv [4, 0, 1, 5, 6, 7, 8, 9, 10, 11, 12, 13, 14, 15, 16] (lv' := [(20, .int (nI k)), (19, .int (nI ((L.take (k + 1)).map (rk0 r cnt)).sum)), (18, .int (nI ((L.take (k + 1)).map (rk1 r cnt)).sum)), (17, .int (nI cnt)), (10, .ref h), (9, .int (nI r)), (8, .int (nI m)), (7, .int (nI (wEar L))), (6, .int (nI (wRib L))), (5, .int (nI (nRib L))), (4, .int (nI S.length)), (3, .int (nI L.length)), (2, .int t), (1, .ref A.1), (0, .ref b)]) rfl ?_
            refine V_iinc C 0 (nI (k + 1)) 1247 [(20, .int (nI (k + 1))), (19, .int (nI ((L.take (k + 1)).map (rk0 r cnt)).sum)), (18, .int (nI ((L.take (k + 1)).map (rk1 r cnt)).sum)), (17, .int (nI cnt)), (10, .ref h), (9, .int (nI r)), (8, .int (nI m)), (7, .int (nI (wEar L))), (6, .int (nI (wRib L))), (5, .int (nI (nRib L))), (4, .int (nI S.length)), (3, .int (nI L.length)), (2, .int t), (1, .ref A.1), (0, .ref b)] dL_law_1244 rfl rfl (nI_1 k) (hlt 20 (by decide)) rfl ?_
            refine V_goto C 1161 dL_law_1247 rfl ?_
            exact ih (k + 1) (by omega)
        · by_cases q3 : mPg z < r
          · by_cases q2 : r ≤ mPg z + cnt
            · refine V_iload C 4 1201 dL_law_1199 rfl rfl ?_
              refine V_iload C 0 1203 dL_law_1201 rfl rfl ?_
              refine V_if_le C 1217 1206 dL_law_1203 rfl rfl (fun _ => ?_) (fun e => absurd ((wy_le (by omega) (by omega)).mpr (by omega)) e)
              refine V_iconst C (0 : Int32) 1218 dL_law_1217 rfl rfl ?_
              refine V_iadd C 1219 dL_law_1218 rfl ?_
              refine V_st (st2 := [.int (nI ((L.take (k + 1)).map (rk1 r cnt)).sum)]) (by rw [ek, sum_snoc, rk1_no (by omega), Nat.add_zero, Int32.add_zero] <;> rfl) ?_
              refine V_istore C 1221 [(18, .int (nI ((L.take (k + 1)).map (rk1 r cnt)).sum)), (22, .int ((nI (mPg z)) - (nI r))), (21, .int (nI (mId z))), (20, .int (nI k)), (19, .int (nI ((L.take k).map (rk0 r cnt)).sum)), (17, .int (nI cnt)), (10, .ref h), (9, .int (nI r)), (8, .int (nI m)), (7, .int (nI (wEar L))), (6, .int (nI (wRib L))), (5, .int (nI (nRib L))), (4, .int (nI S.length)), (3, .int (nI L.length)), (2, .int t), (1, .ref A.1), (0, .ref b)] dL_law_1219 rfl (hlt 18 (by decide)) rfl ?_
              refine V_iload C 4 1223 dL_law_1221 rfl rfl ?_
              refine V_iload C 1 1225 dL_law_1223 rfl rfl ?_
              refine V_if_ge C 1240 1228 dL_law_1225 rfl rfl (fun e => absurd e (fun e => absurd ((wy_ge (by omega) (by omega)).mp e) (by omega))) (fun _ => ?_)
              refine V_iload C 1 1230 dL_law_1228 rfl rfl ?_
              refine V_ineg C 1231 dL_law_1230 rfl ?_
              refine V_iload C 5 1233 dL_law_1231 rfl rfl ?_
              refine V_icmp_gt C 1240 1236 dL_law_1233 rfl rfl (fun e => absurd e (fun e => absurd ((wy_gtn (by omega) (by omega) (by omega)).mp e) (by omega))) (fun _ => ?_)
              refine V_iconst C (1 : Int32) 1237 dL_law_1236 rfl rfl ?_
              refine V_goto C 1241 dL_law_1237 rfl ?_
              refine V_iadd C 1242 dL_law_1241 rfl ?_
              refine V_st (st2 := [.int (nI ((L.take (k + 1)).map (rk0 r cnt)).sum)]) (by rw [ek, sum_snoc, rk0_yes ⟨hw, by omega, by omega⟩, nI_1] <;> rfl) ?_
              refine V_istore C 1244 [(19, .int (nI ((L.take (k + 1)).map (rk0 r cnt)).sum)), (18, .int (nI ((L.take (k + 1)).map (rk1 r cnt)).sum)), (22, .int ((nI (mPg z)) - (nI r))), (21, .int (nI (mId z))), (20, .int (nI k)), (17, .int (nI cnt)), (10, .ref h), (9, .int (nI r)), (8, .int (nI m)), (7, .int (nI (wEar L))), (6, .int (nI (wRib L))), (5, .int (nI (nRib L))), (4, .int (nI S.length)), (3, .int (nI L.length)), (2, .int t), (1, .ref A.1), (0, .ref b)] dL_law_1242 rfl (hlt 19 (by decide)) rfl ?_
              refine V_lv [4, 0, 1, 5, 6, 7, 8, 9, 10, 11, 12, 13, 14, 15, 16] (lv' := [(20, .int (nI k)), (19, .int (nI ((L.take (k + 1)).map (rk0 r cnt)).sum)), (18, .int (nI ((L.take (k + 1)).map (rk1 r cnt)).sum)), (17, .int (nI cnt)), (10, .ref h), (9, .int (nI r)), (8, .int (nI m)), (7, .int (nI (wEar L))), (6, .int (nI (wRib L))), (5, .int (nI (nRib L))), (4, .int (nI S.length)), (3, .int (nI L.length)), (2, .int t), (1, .ref A.1), (0, .ref b)]) rfl ?_
              refine V_iinc C 0 (nI (k + 1)) 1247 [(20, .int (nI (k + 1))), (19, .int (nI ((L.take (k + 1)).map (rk0 r cnt)).sum)), (18, .int (nI ((L.take (k + 1)).map (rk1 r cnt)).sum)), (17, .int (nI cnt)), (10, .ref h), (9, .int (nI r)), (8, .int (nI m)), (7, .int (nI (wEar L))), (6, .int (nI (wRib L))), (5, .int (nI (nRib L))), (4, .int (nI S.length)), (3, .int (nI L.length)), (2, .int t), (1, .ref A.1), (0, .ref b)] dL_law_1244 rfl rfl (nI_1 k) (hlt 20 (by decide)) rfl ?_
              refine V_goto C 1161 dL_law_1247 rfl ?_
              exact ih (k + 1) (by omega)
            · refine V_iload C 4 1201 dL_law_1199 rfl rfl ?_
              refine V_iload C 0 1203 dL_law_1201 rfl rfl ?_
              refine V_if_le C 1217 1206 dL_law_1203 rfl rfl (fun _ => ?_) (fun e => absurd ((wy_le (by omega) (by omega)).mpr (by omega)) e)
              refine V_iconst C (0 : Int32) 1218 dL_law_1217 rfl rfl ?_
              refine V_iadd C 1219 dL_law_1218 rfl ?_
              refine V_st (st2 := [.int (nI ((L.take (k + 1)).map (rk1 r cnt)).sum)]) (by rw [ek, sum_snoc, rk1_no (by omega), Nat.add_zero, Int32.add_zero] <;> rfl) ?_
              refine V_istore C 1221 [(18, .int (nI ((L.take (k + 1)).map (rk1 r cnt)).sum)), (22, .int ((nI (mPg z)) - (nI r))), (21, .int (nI (mId z))), (20, .int (nI k)), (19, .int (nI ((L.take k).map (rk0 r cnt)).sum)), (17, .int (nI cnt)), (10, .ref h), (9, .int (nI r)), (8, .int (nI m)), (7, .int (nI (wEar L))), (6, .int (nI (wRib L))), (5, .int (nI (nRib L))), (4, .int (nI S.length)), (3, .int (nI L.length)), (2, .int t), (1, .ref A.1), (0, .ref b)] dL_law_1219 rfl (hlt 18 (by decide)) rfl ?_
              refine V_iload C 4 1223 dL_law_1221 rfl rfl ?_
              refine V_iload C 1 1225 dL_law_1223 rfl rfl ?_
              refine V_if_ge C 1240 1228 dL_law_1225 rfl rfl (fun e => absurd e (fun e => absurd ((wy_ge (by omega) (by omega)).mp e) (by omega))) (fun _ => ?_)
              refine V_iload C 1 1230 dL_law_1228 rfl rfl ?_
              refine V_ineg C 1231 dL_law_1230 rfl ?_
              refine V_iload C 5 1233 dL_law_1231 rfl rfl ?_
              refine V_icmp_gt C 1240 1236 dL_law_1233 rfl rfl (fun _ => ?_) (fun e => absurd ((wy_gtn (by omega) (by omega) (by omega)).mpr (by omega)) e)
              refine V_iconst C (0 : Int32) 1241 dL_law_1240 rfl rfl ?_
              refine V_iadd C 1242 dL_law_1241 rfl ?_
              refine V_st (st2 := [.int (nI ((L.take (k + 1)).map (rk0 r cnt)).sum)]) (by rw [ek, sum_snoc, rk0_no (by omega), Nat.add_zero, Int32.add_zero] <;> rfl) ?_
              refine V_istore C 1244 [(19, .int (nI ((L.take (k + 1)).map (rk0 r cnt)).sum)), (18, .int (nI ((L.take (k + 1)).map (rk1 r cnt)).sum)), (22, .int ((nI (mPg z)) - (nI r))), (21, .int (nI (mId z))), (20, .int (nI k)), (17, .int (nI cnt)), (10, .ref h), (9, .int (nI r)), (8, .int (nI m)), (7, .int (nI (wEar L))), (6, .int (nI (wRib L))), (5, .int (nI (nRib L))), (4, .int (nI S.length)), (3, .int (nI L.length)), (2, .int t), (1, .ref A.1), (0, .ref b)] dL_law_1242 rfl (hlt 19 (by decide)) rfl ?_
              refine V_lv [4, 0, 1, 5, 6, 7, 8, 9, 10, 11, 12, 13, 14, 15, 16] (lv' := [(20, .int (nI k)), (19, .int (nI ((L.take (k + 1)).map (rk0 r cnt)).sum)), (18, .int (nI ((L.take (k + 1)).map (rk1 r cnt)).sum)), (17, .int (nI cnt)), (10, .ref h), (9, .int (nI r)), (8, .int (nI m)), (7, .int (nI (wEar L))), (6, .int (nI (wRib L))), (5, .int (nI (nRib L))), (4, .int (nI S.length)), (3, .int (nI L.length)), (2, .int t), (1, .ref A.1), (0, .ref b)]) rfl ?_
              refine V_iinc C 0 (nI (k + 1)) 1247 [(20, .int (nI (k + 1))), (19, .int (nI ((L.take (k + 1)).map (rk0 r cnt)).sum)), (18, .int (nI ((L.take (k + 1)).map (rk1 r cnt)).sum)), (17, .int (nI cnt)), (10, .ref h), (9, .int (nI r)), (8, .int (nI m)), (7, .int (nI (wEar L))), (6, .int (nI (wRib L))), (5, .int (nI (nRib L))), (4, .int (nI S.length)), (3, .int (nI L.length)), (2, .int t), (1, .ref A.1), (0, .ref b)] dL_law_1244 rfl rfl (nI_1 k) (hlt 20 (by decide)) rfl ?_
              refine V_goto C 1161 dL_law_1247 rfl ?_
              exact ih (k + 1) (by omega)
          · refine V_iload C 4 1201 dL_law_1199 rfl rfl ?_
            refine V_iload C 0 1203 dL_law_1201 rfl rfl ?_
            refine V_if_le C 1217 1206 dL_law_1203 rfl rfl (fun _ => ?_) (fun e => absurd ((wy_le (by omega) (by omega)).mpr (by omega)) e)
            refine V_iconst C (0 : Int32) 1218 dL_law_1217 rfl rfl ?_
            refine V_iadd C 1219 dL_law_1218 rfl ?_
            refine V_st (st2 := [.int (nI ((L.take (k + 1)).map (rk1 r cnt)).sum)]) (by rw [ek, sum_snoc, rk1_no (by omega), Nat.add_zero, Int32.add_zero] <;> rfl) ?_
            refine V_istore C 1221 [(18, .int (nI ((L.take (k + 1)).map (rk1 r cnt)).sum)), (22, .int ((nI (mPg z)) - (nI r))), (21, .int (nI (mId z))), (20, .int (nI k)), (19, .int (nI ((L.take k).map (rk0 r cnt)).sum)), (17, .int (nI cnt)), (10, .ref h), (9, .int (nI r)), (8, .int (nI m)), (7, .int (nI (wEar L))), (6, .int (nI (wRib L))), (5, .int (nI (nRib L))), (4, .int (nI S.length)), (3, .int (nI L.length)), (2, .int t), (1, .ref A.1), (0, .ref b)] dL_law_1219 rfl (hlt 18 (by decide)) rfl ?_
            refine V_iload C 4 1223 dL_law_1221 rfl rfl ?_
            refine V_iload C 1 1225 dL_law_1223 rfl rfl ?_
            refine V_if_ge C 1240 1228 dL_law_1225 rfl rfl (fun _ => ?_) (fun e => absurd ((wy_ge (by omega) (by omega)).mpr (by omega)) e)
            refine V_iconst C (0 : Int32) 1241 dL_law_1240 rfl rfl ?_
            refine V_iadd C 1242 dL_law_1241 rfl ?_
            refine V_st (st2 := [.int (nI ((L.take (k + 1)).map (rk0 r cnt)).sum)]) (by rw [ek, sum_snoc, rk0_no (by omega), Nat.add_zero, Int32.add_zero] <;> rfl) ?_
            refine V_istore C 1244 [(19, .int (nI ((L.take (k + 1)).map (rk0 r cnt)).sum)), (18, .int (nI ((L.take (k + 1)).map (rk1 r cnt)).sum)), (22, .int ((nI (mPg z)) - (nI r))), (21, .int (nI (mId z))), (20, .int (nI k)), (17, .int (nI cnt)), (10, .ref h), (9, .int (nI r)), (8, .int (nI m)), (7, .int (nI (wEar L))), (6, .int (nI (wRib L))), (5, .int (nI (nRib L))), (4, .int (nI S.length)), (3, .int (nI L.length)), (2, .int t), (1, .ref A.1), (0, .ref b)] dL_law_1242 rfl (hlt 19 (by decide)) rfl ?_
            refine V_lv [4, 0, 1, 5, 6, 7, 8, 9, 10, 11, 12, 13, 14, 15, 16] (lv' := [(20, .int (nI k)), (19, .int (nI ((L.take (k + 1)).map (rk0 r cnt)).sum)), (18, .int (nI ((L.take (k + 1)).map (rk1 r cnt)).sum)), (17, .int (nI cnt)), (10, .ref h), (9, .int (nI r)), (8, .int (nI m)), (7, .int (nI (wEar L))), (6, .int (nI (wRib L))), (5, .int (nI (nRib L))), (4, .int (nI S.length)), (3, .int (nI L.length)), (2, .int t), (1, .ref A.1), (0, .ref b)]) rfl ?_
            refine V_iinc C 0 (nI (k + 1)) 1247 [(20, .int (nI (k + 1))), (19, .int (nI ((L.take (k + 1)).map (rk0 r cnt)).sum)), (18, .int (nI ((L.take (k + 1)).map (rk1 r cnt)).sum)), (17, .int (nI cnt)), (10, .ref h), (9, .int (nI r)), (8, .int (nI m)), (7, .int (nI (wEar L))), (6, .int (nI (wRib L))), (5, .int (nI (nRib L))), (4, .int (nI S.length)), (3, .int (nI L.length)), (2, .int t), (1, .ref A.1), (0, .ref b)] dL_law_1244 rfl rfl (nI_1 k) (hlt 20 (by decide)) rfl ?_
            refine V_goto C 1161 dL_law_1247 rfl ?_
            exact ih (k + 1) (by omega)
      · refine V_icmp_ge C 1199 1196 dL_law_1193 rfl rfl (fun e => absurd e (show ¬ (2 : Int32) ≤ nI (mWr z) from w_nle (a := 2) (by omega))) (fun _ => ?_)
        refine V_goto C 1244 dL_law_1196 rfl ?_
        refine V_lv [2, 3, 4, 5, 6, 7, 8, 9, 10, 11, 12, 13, 14, 15, 16] (lv' := [(20, .int (nI k)), (19, .int (nI ((L.take k).map (rk0 r cnt)).sum)), (18, .int (nI ((L.take k).map (rk1 r cnt)).sum)), (17, .int (nI cnt)), (10, .ref h), (9, .int (nI r)), (8, .int (nI m)), (7, .int (nI (wEar L))), (6, .int (nI (wRib L))), (5, .int (nI (nRib L))), (4, .int (nI S.length)), (3, .int (nI L.length)), (2, .int t), (1, .ref A.1), (0, .ref b)]) rfl ?_
        refine V_iinc C 0 (nI (k + 1)) 1247 [(20, .int (nI (k + 1))), (19, .int (nI ((L.take k).map (rk0 r cnt)).sum)), (18, .int (nI ((L.take k).map (rk1 r cnt)).sum)), (17, .int (nI cnt)), (10, .ref h), (9, .int (nI r)), (8, .int (nI m)), (7, .int (nI (wEar L))), (6, .int (nI (wRib L))), (5, .int (nI (nRib L))), (4, .int (nI S.length)), (3, .int (nI L.length)), (2, .int t), (1, .ref A.1), (0, .ref b)] dL_law_1244 rfl rfl (nI_1 k) (hlt 20 (by decide)) rfl ?_
        refine V_goto C 1161 dL_law_1247 rfl ?_
        have k9 := ih (k + 1) (by omega)
        rw [ek, sum_snoc, sum_snoc, rk1_no (show ¬ (2 ≤ mWr z ∧ r < mPg z ∧ mPg z ≤ r + cnt) by omega), rk0_no (show ¬ (2 ≤ mWr z ∧ mPg z < r ∧ r ≤ mPg z + cnt) by omega)] at k9
        exact k9
  exact loop L.length 0 (by omega)
set_option maxRecDepth 8000 in
set_option maxHeartbeats 4000000 in
theorem law_H {K : KT} {g : G0} {A : XA} {x : XV} {L : List M5} {S : List Nat} {nid r b cells slots h m : Nat} {f : Nat → Int32} {t : Int32} (Lk : LKx K g) (hb : BK x L S nid r) (hr : cells ≤ 600500 ∧ slots ≤ 7283000) (ke : V K cells slots ([(h, aI g 60 f)] ++ (xW g A x ++ [])) [(10, .ref h), (9, .int (nI r)), (8, .int (nI m)), (7, .int (nI (wEar L))), (6, .int (nI (wRib L))), (5, .int (nI (nRib L))), (4, .int (nI S.length)), (3, .int (nI L.length)), (2, .int t), (1, .ref A.1), (0, .ref b)] [] 1282) : V K cells slots ([(h, aI g 60 f)] ++ (xW g A x ++ [])) [(10, .ref h), (9, .int (nI r)), (8, .int (nI m)), (7, .int (nI (wEar L))), (6, .int (nI (wRib L))), (5, .int (nI (nRib L))), (4, .int (nI S.length)), (3, .int (nI L.length)), (2, .int t), (1, .ref A.1), (0, .ref b)] [] 1142 := by
  obtain ⟨C, hBA, hQ, hst, h23⟩ := id Lk
  have hlt : ∀ i, i < 23 → i < kn K := fun i h => by rw [h23]; exact h
  have hE := hQ.2.2.2.2.2
  have hN := hQ.sk.2.2.2.2
  obtain ⟨hr1, hr2⟩ := hr
  have hr60 := hb.2.2.2.2.2.1.1
  have hlen := hb.len
  have hpgs : ∀ z ∈ L, mPg z < 60 := fun z hz => (hb.mk hz).2.1
  have hwrs : ∀ z ∈ L, mSt z ≠ 0 → mWr z = 0 := fun z hz => (hb.mk hz).2.2.2.2.2
  refine V_iconst C (1 : Int32) 1143 dL_law_1142 rfl rfl ?_
  refine V_istore C 1145 [(17, .int (1 : Int32)), (10, .ref h), (9, .int (nI r)), (8, .int (nI m)), (7, .int (nI (wEar L))), (6, .int (nI (wRib L))), (5, .int (nI (nRib L))), (4, .int (nI S.length)), (3, .int (nI L.length)), (2, .int t), (1, .ref A.1), (0, .ref b)] dL_law_1143 rfl (hlt 17 (by decide)) rfl ?_
  have loop : ∀ d cnt, cnt + d = 21 → 1 ≤ cnt → V K cells slots ([(h, aI g 60 f)] ++ (xW g A x ++ [])) [(17, .int (nI cnt)), (10, .ref h), (9, .int (nI r)), (8, .int (nI m)), (7, .int (nI (wEar L))), (6, .int (nI (wRib L))), (5, .int (nI (nRib L))), (4, .int (nI S.length)), (3, .int (nI L.length)), (2, .int t), (1, .ref A.1), (0, .ref b)] [] 1145 := by
    intro d
    induction d with
    | zero =>
      intro cnt hd h1
      obtain rfl : cnt = 21 := by omega
      refine V_iload C 0 1147 dL_law_1145 rfl rfl ?_
      refine V_bipush C (21 : Int32) 1149 dL_law_1147 rfl rfl ?_
      refine V_icmp_ge C 1282 1152 dL_law_1149 rfl rfl (fun _ => ?_) (fun e => absurd (show (21 : Int32) ≤ nI 21 by decide) e)
      refine V_lv [1, 2, 3, 4, 5, 6, 7, 8, 9, 10, 11] (lv' := [(10, .ref h), (9, .int (nI r)), (8, .int (nI m)), (7, .int (nI (wEar L))), (6, .int (nI (wRib L))), (5, .int (nI (nRib L))), (4, .int (nI S.length)), (3, .int (nI L.length)), (2, .int t), (1, .ref A.1), (0, .ref b)]) rfl ?_
      exact ke
    | succ d ih =>
      intro cnt hd h1
      refine V_iload C 0 1147 dL_law_1145 rfl rfl ?_
      refine V_bipush C (21 : Int32) 1149 dL_law_1147 rfl rfl ?_
      refine V_icmp_ge C 1282 1152 dL_law_1149 rfl rfl (fun e => absurd e (show ¬ (21 : Int32) ≤ nI cnt from w_nle (a := 21) (by omega))) (fun _ => ?_)
      refine V_iconst C (0 : Int32) 1153 dL_law_1152 rfl rfl ?_
      refine V_istore C 1155 [(18, .int (0 : Int32)), (17, .int (nI cnt)), (10, .ref h), (9, .int (nI r)), (8, .int (nI m)), (7, .int (nI (wEar L))), (6, .int (nI (wRib L))), (5, .int (nI (nRib L))), (4, .int (nI S.length)), (3, .int (nI L.length)), (2, .int t), (1, .ref A.1), (0, .ref b)] dL_law_1153 rfl (hlt 18 (by decide)) rfl ?_
      refine V_iconst C (0 : Int32) 1156 dL_law_1155 rfl rfl ?_
      refine V_istore C 1158 [(19, .int (0 : Int32)), (18, .int (0 : Int32)), (17, .int (nI cnt)), (10, .ref h), (9, .int (nI r)), (8, .int (nI m)), (7, .int (nI (wEar L))), (6, .int (nI (wRib L))), (5, .int (nI (nRib L))), (4, .int (nI S.length)), (3, .int (nI L.length)), (2, .int t), (1, .ref A.1), (0, .ref b)] dL_law_1156 rfl (hlt 19 (by decide)) rfl ?_
      refine V_iconst C (0 : Int32) 1159 dL_law_1158 rfl rfl ?_
      refine V_istore C 1161 [(20, .int (0 : Int32)), (19, .int (0 : Int32)), (18, .int (0 : Int32)), (17, .int (nI cnt)), (10, .ref h), (9, .int (nI r)), (8, .int (nI m)), (7, .int (nI (wEar L))), (6, .int (nI (wRib L))), (5, .int (nI (nRib L))), (4, .int (nI S.length)), (3, .int (nI L.length)), (2, .int t), (1, .ref A.1), (0, .ref b)] dL_law_1159 rfl (hlt 20 (by decide)) rfl ?_
      refine V_lv [0, 1, 2, 3, 4, 5, 6, 7, 8, 9, 10, 11, 12, 13, 14] (lv' := [(20, .int (0 : Int32)), (19, .int (0 : Int32)), (18, .int (0 : Int32)), (17, .int (nI cnt)), (10, .ref h), (9, .int (nI r)), (8, .int (nI m)), (7, .int (nI (wEar L))), (6, .int (nI (wRib L))), (5, .int (nI (nRib L))), (4, .int (nI S.length)), (3, .int (nI L.length)), (2, .int t), (1, .ref A.1), (0, .ref b)]) rfl ?_
      refine law_H1 Lk hb ⟨hr1, hr2⟩ h1 (by omega) ?_
      show V K (cells) (slots) ([(h, aI g 60 f)] ++ (xW g A x ++ [])) [(19, .int (nI (L.map (rk0 r cnt)).sum)), (18, .int (nI (L.map (rk1 r cnt)).sum)), (17, .int (nI cnt)), (10, .ref h), (9, .int (nI r)), (8, .int (nI m)), (7, .int (nI (wEar L))), (6, .int (nI (wRib L))), (5, .int (nI (nRib L))), (4, .int (nI S.length)), (3, .int (nI L.length)), (2, .int t), (1, .ref A.1), (0, .ref b)] [] 1250
      refine V_aload_n C 12 1251 dL_law_1250 rfl rfl ?_
      refine V_iload C 2 1253 dL_law_1251 rfl rfl ?_
      refine V_iconst C (1 : Int32) 1254 dL_law_1253 rfl rfl ?_
      refine V_callXr C hBA hE ml_L_239 (pre := [(h, aI g 60 f)]) (post := []) (wc := xW g A x) (w1 := xW g A x) (rv := some (.int (nI (rsk L r cnt true)))) (as := [.int (nI cnt), .int (1 : Int32)]) (rest := []) (c_X3_earsAtRisk (R := .inl ((nI (rsk L r cnt true)), x)) hst (q_risk hb h1 (by omega) true)) 1 1257 ([(h, aI g 60 f)] ++ (xW g A x ++ [])) dL_law_1254 rfl ⟨Nat.le_of_ble_eq_true rfl, Nat.le_of_ble_eq_true rfl⟩ rfl rfl rfl (xW_fst _ _ _ _) rfl rfl rfl (Nat.le_of_ble_eq_true rfl) ⟨by show cells + 0 ≤ 600516; omega, by show slots + 0 ≤ 7283748; omega⟩ ?_
      refine V_st (st2 := [.int (nI (L.map (rk1 r cnt)).sum)]) (by rw [rsk_1 hwrs] <;> rfl) ?_
      refine V_iload C 1 1259 dL_law_1257 rfl rfl ?_
      refine V_icmp_ne C 1274 1262 dL_law_1259 rfl rfl (fun e => absurd rfl e) (fun _ => ?_)
      refine V_aload_n C 12 1263 dL_law_1262 rfl rfl ?_
      refine V_iload C 2 1265 dL_law_1263 rfl rfl ?_
      refine V_iconst C (0 : Int32) 1266 dL_law_1265 rfl rfl ?_
      refine V_callXr C hBA hE ml_L_239 (pre := [(h, aI g 60 f)]) (post := []) (wc := xW g A x) (w1 := xW g A x) (rv := some (.int (nI (rsk L r cnt false)))) (as := [.int (nI cnt), .int (0 : Int32)]) (rest := []) (c_X3_earsAtRisk (R := .inl ((nI (rsk L r cnt false)), x)) hst (q_risk hb h1 (by omega) false)) 1 1269 ([(h, aI g 60 f)] ++ (xW g A x ++ [])) dL_law_1266 rfl ⟨Nat.le_of_ble_eq_true rfl, Nat.le_of_ble_eq_true rfl⟩ rfl rfl rfl (xW_fst _ _ _ _) rfl rfl rfl (Nat.le_of_ble_eq_true rfl) ⟨by show cells + 0 ≤ 600516; omega, by show slots + 0 ≤ 7283748; omega⟩ ?_
      refine V_st (st2 := [.int (nI (L.map (rk0 r cnt)).sum)]) (by rw [rsk_0 hwrs] <;> rfl) ?_
      refine V_iload C 0 1271 dL_law_1269 rfl rfl ?_
      refine V_icmp_eq C 1276 1274 dL_law_1271 rfl rfl (fun _ => ?_) (fun e => absurd rfl e)
      refine V_lv [2, 3, 4, 5, 6, 7, 8, 9, 10, 11, 12, 13] (lv' := [(17, .int (nI cnt)), (10, .ref h), (9, .int (nI r)), (8, .int (nI m)), (7, .int (nI (wEar L))), (6, .int (nI (wRib L))), (5, .int (nI (nRib L))), (4, .int (nI S.length)), (3, .int (nI L.length)), (2, .int t), (1, .ref A.1), (0, .ref b)]) rfl ?_
      refine V_iinc C 0 (nI (cnt + 1)) 1279 [(17, .int (nI (cnt + 1))), (10, .ref h), (9, .int (nI r)), (8, .int (nI m)), (7, .int (nI (wEar L))), (6, .int (nI (wRib L))), (5, .int (nI (nRib L))), (4, .int (nI S.length)), (3, .int (nI L.length)), (2, .int t), (1, .ref A.1), (0, .ref b)] dL_law_1276 rfl rfl (nI_1 cnt) (hlt 17 (by decide)) rfl ?_
      refine V_goto C 1145 dL_law_1279 rfl ?_
      exact ih (cnt + 1) (by omega) (by omega)
  refine V_lv [0, 1, 2, 3, 4, 5, 6, 7, 8, 9, 10, 11] (lv' := [(17, .int (1 : Int32)), (10, .ref h), (9, .int (nI r)), (8, .int (nI m)), (7, .int (nI (wEar L))), (6, .int (nI (wRib L))), (5, .int (nI (nRib L))), (4, .int (nI S.length)), (3, .int (nI L.length)), (2, .int t), (1, .ref A.1), (0, .ref b)]) rfl ?_
  exact loop 20 1 (by omega) (Nat.le_refl _)
set_option maxRecDepth 8000 in
set_option maxHeartbeats 4000000 in
theorem law_I {K : KT} {g : G0} {A : XA} {x : XV} {L : List M5} {S : List Nat} {nid r b cells slots h m : Nat} {f : Nat → Int32} {t : Int32} (Lk : LKx K g) (hb : BK x L S nid r) (hr : cells + 10 ≤ 600500 ∧ slots + 100 ≤ 7283000) (ke : V K (cells + 2) (slots + 12) ([(h, aI g 60 f)] ++ (xW g A x ++ [])) [(10, .ref h), (9, .int (nI r)), (8, .int (nI m)), (7, .int (nI (wEar L))), (6, .int (nI (wRib L))), (5, .int (nI (nRib L))), (4, .int (nI S.length)), (3, .int (nI L.length)), (2, .int t), (1, .ref A.1), (0, .ref b)] [] 1422) : V K cells slots ([(h, aI g 60 f)] ++ (xW g A x ++ [])) [(10, .ref h), (9, .int (nI r)), (8, .int (nI m)), (7, .int (nI (wEar L))), (6, .int (nI (wRib L))), (5, .int (nI (nRib L))), (4, .int (nI S.length)), (3, .int (nI L.length)), (2, .int t), (1, .ref A.1), (0, .ref b)] [] 1282 := by
  obtain ⟨C, hBA, hQ, hst, h23⟩ := id Lk
  have hlt : ∀ i, i < 23 → i < kn K := fun i h => by rw [h23]; exact h
  have hE := hQ.2.2.2.2.2
  have hN := hQ.sk.2.2.2.2
  obtain ⟨hr1, hr2⟩ := hr
  have hr60 := hb.2.2.2.2.2.1.1
  have hlen := hb.len
  have hpgs : ∀ z ∈ L, mPg z < 60 := fun z hz => (hb.mk hz).2.1
  have hwrs : ∀ z ∈ L, mSt z ≠ 0 → mWr z = 0 := fun z hz => (hb.mk hz).2.2.2.2.2
  obtain ⟨vc, vt, v1, v2, v3, v4⟩ := q_votes hb
  have hwa := wAll L
  have hwl := wAll_le hb.2.2.1.bL
  have hg : ∀ k, k < L.length → L[k]? = some (L.getD k (0, 0, 0, 0, 0)) := fun k hk => by
    rw [List.getD_eq_getElem?_getD, List.getElem?_eq_getElem hk]
    rfl
  have r1380 : V K (cells) (slots) ([(h, aI g 60 f)] ++ (xW g A x ++ [])) [(17, .int (nI (spn L))), (10, .ref h), (9, .int (nI r)), (8, .int (nI m)), (7, .int (nI (wEar L))), (6, .int (nI (wRib L))), (5, .int (nI (nRib L))), (4, .int (nI S.length)), (3, .int (nI L.length)), (2, .int t), (1, .ref A.1), (0, .ref b)] [] 1380 := by
    refine V_aload_n C 10 1381 dL_law_1380 rfl rfl ?_
    refine V_callP C ml_L_261 (pre := [(h, aI g 60 f)]) (post := []) (w := xW g A x) (as := []) (rest := []) (c_X3_isConsistent (q_consistent hb)) 1 1384 dL_law_1381 rfl ⟨Nat.le_of_ble_eq_true rfl, Nat.le_of_ble_eq_true rfl⟩ rfl rfl rfl rfl rfl (Nat.le_of_ble_eq_true rfl) ⟨by rw [C.2.2.2.2.2.2.1]; show cells ≤ 600516; omega, by rw [C.2.2.2.2.2.2.1]; show slots ≤ 7283748; omega⟩ ?_
    refine V_if_eq C 1420 1387 dL_law_1384 rfl rfl (fun e => absurd e (show ¬ (1 : Int32) = 0 by decide)) (fun _ => ?_)
    refine V_aload_n C 10 1388 dL_law_1387 rfl rfl ?_
    refine V_callP C ml_L_265 (pre := [(h, aI g 60 f)]) (post := []) (w := xW g A x) (as := []) (rest := []) (c_X3_motionsCarried (v1)) 1 1391 dL_law_1388 rfl ⟨Nat.le_of_ble_eq_true rfl, Nat.le_of_ble_eq_true rfl⟩ rfl rfl rfl rfl rfl (Nat.le_of_ble_eq_true rfl) ⟨by rw [C.2.2.2.2.2.2.1]; show cells ≤ 600516; omega, by rw [C.2.2.2.2.2.2.1]; show slots ≤ 7283748; omega⟩ ?_
    refine V_aload_n C 10 1392 dL_law_1391 rfl rfl ?_
    refine V_callP C ml_L_268 (pre := [(h, aI g 60 f)]) (post := []) (w := xW g A x) (as := []) (rest := [.int (nI vc)]) (c_X3_votesHeld (v2)) 1 1395 dL_law_1392 rfl ⟨Nat.le_of_ble_eq_true rfl, Nat.le_of_ble_eq_true rfl⟩ rfl rfl rfl rfl rfl (Nat.le_of_ble_eq_true rfl) ⟨by rw [C.2.2.2.2.2.2.1]; show cells ≤ 600516; omega, by rw [C.2.2.2.2.2.2.1]; show slots ≤ 7283748; omega⟩ ?_
    refine V_icmp_gt C 1420 1398 dL_law_1395 rfl rfl (fun e => absurd e (show ¬ nI vt < nI vc from w_nlt v3)) (fun _ => ?_)
    refine V_aload_n C 10 1399 dL_law_1398 rfl rfl ?_
    refine V_iload_n C 8 1400 dL_law_1399 rfl rfl ?_
    refine V_callH C hBA hQ hN lh_markByPage (pre := [(h, aI g 60 f)]) (w0 := xW g A x) (post := []) (as := [.ref A.1, .int (nI L.length)]) (rest := []) (wX_markByPage hst (q_byPageX hb)) dL_law_1400 ⟨Nat.le_of_ble_eq_true rfl, Nat.le_of_ble_eq_true rfl⟩ rfl rfl rfl (Nat.le_of_ble_eq_true rfl) ⟨by show cells + 1 ≤ 600516; omega, by show slots + 6 ≤ 7283748; omega⟩ (fun rv w1 hP => ?_)
    obtain ⟨rfl, rfl⟩ := hP
    show V K (cells + 1) (slots + 6) ([(h, aI g 60 f)] ++ (xW g A x ++ [])) [(17, .int (nI (spn L))), (10, .ref h), (9, .int (nI r)), (8, .int (nI m)), (7, .int (nI (wEar L))), (6, .int (nI (wRib L))), (5, .int (nI (nRib L))), (4, .int (nI S.length)), (3, .int (nI L.length)), (2, .int t), (1, .ref A.1), (0, .ref b)] [.int (-30000 : Int32)] 1403
    refine V_sipush C (-30000 : Int32) 1406 dL_law_1403 rfl rfl ?_
    refine V_icmp_ne C 1420 1409 dL_law_1406 rfl rfl (fun e => absurd rfl e) (fun _ => ?_)
    refine V_aload_n C 10 1410 dL_law_1409 rfl rfl ?_
    refine V_iload_n C 8 1411 dL_law_1410 rfl rfl ?_
    refine V_callH C hBA hQ hN lh_markByWeight (pre := [(h, aI g 60 f)]) (w0 := xW g A x) (post := []) (as := [.ref A.1, .int (nI L.length)]) (rest := []) (wX_markByWeight hst (q_byWeightX hb (by omega) (fun z hz => Nat.ne_of_lt (rnk_len hz)))) dL_law_1411 ⟨Nat.le_of_ble_eq_true rfl, Nat.le_of_ble_eq_true rfl⟩ rfl rfl rfl (Nat.le_of_ble_eq_true rfl) ⟨by show cells + 1 + 1 ≤ 600516; omega, by show slots + 6 + 6 ≤ 7283748; omega⟩ (fun rv w1 hP => ?_)
    obtain ⟨rfl, rfl⟩ := hP
    show V K (cells + 1 + 1) (slots + 6 + 6) ([(h, aI g 60 f)] ++ (xW g A x ++ [])) [(17, .int (nI (spn L))), (10, .ref h), (9, .int (nI r)), (8, .int (nI m)), (7, .int (nI (wEar L))), (6, .int (nI (wRib L))), (5, .int (nI (nRib L))), (4, .int (nI S.length)), (3, .int (nI L.length)), (2, .int t), (1, .ref A.1), (0, .ref b)] [.int (-30000 : Int32)] 1414
    refine V_sipush C (-30000 : Int32) 1417 dL_law_1414 rfl rfl ?_
    refine V_icmp_eq C 1422 1420 dL_law_1417 rfl rfl (fun _ => ?_) (fun e => absurd rfl e)
    refine V_lv [1, 2, 3, 4, 5, 6, 7, 8, 9, 10, 11] (lv' := [(10, .ref h), (9, .int (nI r)), (8, .int (nI m)), (7, .int (nI (wEar L))), (6, .int (nI (wRib L))), (5, .int (nI (nRib L))), (4, .int (nI S.length)), (3, .int (nI L.length)), (2, .int t), (1, .ref A.1), (0, .ref b)]) rfl ?_
    exact ke
  have r1312 : V K (cells) (slots) ([(h, aI g 60 f)] ++ (xW g A x ++ [])) [(10, .ref h), (9, .int (nI r)), (8, .int (nI m)), (7, .int (nI (wEar L))), (6, .int (nI (wRib L))), (5, .int (nI (nRib L))), (4, .int (nI S.length)), (3, .int (nI L.length)), (2, .int t), (1, .ref A.1), (0, .ref b)] [.int (nI (spn L))] 1312 := by
    refine V_istore C 1314 [(17, .int (nI (spn L))), (10, .ref h), (9, .int (nI r)), (8, .int (nI m)), (7, .int (nI (wEar L))), (6, .int (nI (wRib L))), (5, .int (nI (nRib L))), (4, .int (nI S.length)), (3, .int (nI L.length)), (2, .int t), (1, .ref A.1), (0, .ref b)] dL_law_1312 rfl (hlt 17 (by decide)) rfl ?_
    refine V_aload_n C 10 1315 dL_law_1314 rfl rfl ?_
    refine V_callP C ml_L_242 (pre := [(h, aI g 60 f)]) (post := []) (w := xW g A x) (as := []) (rest := []) (c_X3_span (q_span hb)) 1 1318 dL_law_1315 rfl ⟨Nat.le_of_ble_eq_true rfl, Nat.le_of_ble_eq_true rfl⟩ rfl rfl rfl rfl rfl (Nat.le_of_ble_eq_true rfl) ⟨by rw [C.2.2.2.2.2.2.1]; show cells ≤ 600516; omega, by rw [C.2.2.2.2.2.2.1]; show slots ≤ 7283748; omega⟩ ?_
    refine V_iload C 0 1320 dL_law_1318 rfl rfl ?_
    refine V_icmp_ne C 1420 1323 dL_law_1320 rfl rfl (fun e => absurd rfl e) (fun _ => ?_)
    refine V_aload_n C 10 1324 dL_law_1323 rfl rfl ?_
    refine V_callP C ml_L_245 (pre := [(h, aI g 60 f)]) (post := []) (w := xW g A x) (as := []) (rest := []) (c_X3_spanByEnds (q_spanE hb)) 1 1327 dL_law_1324 rfl ⟨Nat.le_of_ble_eq_true rfl, Nat.le_of_ble_eq_true rfl⟩ rfl rfl rfl rfl rfl (Nat.le_of_ble_eq_true rfl) ⟨by rw [C.2.2.2.2.2.2.1]; show cells ≤ 600516; omega, by rw [C.2.2.2.2.2.2.1]; show slots ≤ 7283748; omega⟩ ?_
    refine V_iload C 0 1329 dL_law_1327 rfl rfl ?_
    refine V_icmp_ne C 1420 1332 dL_law_1329 rfl rfl (fun e => absurd rfl e) (fun _ => ?_)
    refine V_aload_n C 10 1333 dL_law_1332 rfl rfl ?_
    refine V_callP C ml_L_248 (pre := [(h, aI g 60 f)]) (post := []) (w := xW g A x) (as := []) (rest := []) (c_X3_ribbonCount (q_ribbons hb)) 1 1336 dL_law_1333 rfl ⟨Nat.le_of_ble_eq_true rfl, Nat.le_of_ble_eq_true rfl⟩ rfl rfl rfl rfl rfl (Nat.le_of_ble_eq_true rfl) ⟨by rw [C.2.2.2.2.2.2.1]; show cells ≤ 600516; omega, by rw [C.2.2.2.2.2.2.1]; show slots ≤ 7283748; omega⟩ ?_
    refine V_iload C 6 1338 dL_law_1336 rfl rfl ?_
    refine V_icmp_ne C 1420 1341 dL_law_1338 rfl rfl (fun e => absurd rfl e) (fun _ => ?_)
    refine V_aload_n C 10 1342 dL_law_1341 rfl rfl ?_
    refine V_callP C ml_L_251 (pre := [(h, aI g 60 f)]) (post := []) (w := xW g A x) (as := []) (rest := []) (c_X3_ribbonWeight (q_ribW hb)) 1 1345 dL_law_1342 rfl ⟨Nat.le_of_ble_eq_true rfl, Nat.le_of_ble_eq_true rfl⟩ rfl rfl rfl rfl rfl (Nat.le_of_ble_eq_true rfl) ⟨by rw [C.2.2.2.2.2.2.1]; show cells ≤ 600516; omega, by rw [C.2.2.2.2.2.2.1]; show slots ≤ 7283748; omega⟩ ?_
    refine V_iload C 5 1347 dL_law_1345 rfl rfl ?_
    refine V_icmp_ne C 1420 1350 dL_law_1347 rfl rfl (fun e => absurd rfl e) (fun _ => ?_)
    refine V_aload_n C 10 1351 dL_law_1350 rfl rfl ?_
    refine V_callP C ml_L_254 (pre := [(h, aI g 60 f)]) (post := []) (w := xW g A x) (as := []) (rest := []) (c_X3_dogEarWeight (q_earW hb)) 1 1354 dL_law_1351 rfl ⟨Nat.le_of_ble_eq_true rfl, Nat.le_of_ble_eq_true rfl⟩ rfl rfl rfl rfl rfl (Nat.le_of_ble_eq_true rfl) ⟨by rw [C.2.2.2.2.2.2.1]; show cells ≤ 600516; omega, by rw [C.2.2.2.2.2.2.1]; show slots ≤ 7283748; omega⟩ ?_
    refine V_iload C 4 1356 dL_law_1354 rfl rfl ?_
    refine V_icmp_ne C 1420 1359 dL_law_1356 rfl rfl (fun e => absurd rfl e) (fun _ => ?_)
    refine V_iload_n C 8 1360 dL_law_1359 rfl rfl ?_
    by_cases n0 : L.length = 0
    · refine V_if_le C 1380 1363 dL_law_1360 rfl rfl (fun _ => ?_) (fun e => absurd ((nI_le0 (by omega)).mpr n0) e)
      refine V_lv [0, 1, 2, 3, 4, 5, 6, 7, 8, 9, 10, 11] (lv' := [(17, .int (nI (spn L))), (10, .ref h), (9, .int (nI r)), (8, .int (nI m)), (7, .int (nI (wEar L))), (6, .int (nI (wRib L))), (5, .int (nI (nRib L))), (4, .int (nI S.length)), (3, .int (nI L.length)), (2, .int t), (1, .ref A.1), (0, .ref b)]) rfl ?_
      exact r1380
    · refine V_if_le C 1380 1363 dL_law_1360 rfl rfl (fun e => absurd e (fun e => n0 ((nI_le0 (by omega)).mp e))) (fun _ => ?_)
      refine V_aload_n C 10 1364 dL_law_1363 rfl rfl ?_
      have ct := c_X3_meanWeight (l := kl K) (D := kD K) (g := g) (A := A) (x := x) (k := (L.map mWt).sum) (n := L.length) hst hb.1.1 (s_weightOfAll hb.1 hb.2.2.1.bL) (by omega) (by omega) n0
      refine V_callXr C hBA hE ml_L_257 (pre := [(h, aI g 60 f)]) (post := []) (wc := xW g A x) (w1 := xW g A x) (rv := some (.double (mw (L.map mWt).sum L.length))) (as := []) (rest := []) ct 1 1367 ([(h, aI g 60 f)] ++ (xW g A x ++ [])) dL_law_1364 rfl ⟨Nat.le_of_ble_eq_true rfl, Nat.le_of_ble_eq_true rfl⟩ rfl rfl rfl (xW_fst _ _ _ _) rfl rfl rfl (Nat.le_of_ble_eq_true rfl) ⟨by show cells + 0 ≤ 600516; omega, by show slots + 0 ≤ 7283748; omega⟩ ?_
      refine V_iload C 5 1369 dL_law_1367 rfl rfl ?_
      refine V_iload C 4 1371 dL_law_1369 rfl rfl ?_
      refine V_iadd C 1372 dL_law_1371 rfl ?_
      refine V_st (st2 := [.int (nI (L.map mWt).sum), .double (mw (L.map mWt).sum L.length)]) (by rw [nI_add, hwa]; rfl) ?_
      refine V_i2d C 1373 dL_law_1372 rfl ?_
      refine V_iload_n C 8 1374 dL_law_1373 rfl rfl ?_
      refine V_i2d C 1375 dL_law_1374 rfl ?_
      refine V_ddiv C 1376 dL_law_1375 rfl (mw_ok (show (L.map mWt).sum < 109 by omega) (show L.length < 13 by omega) n0).1 ?_
      refine V_dcmp C 1377 dL_law_1376 rfl (mw_ok (show (L.map mWt).sum < 109 by omega) (show L.length < 13 by omega) n0).2 ?_
      refine V_if_ne C 1420 1380 dL_law_1377 rfl rfl (fun e => absurd rfl e) (fun _ => ?_)
      refine V_lv [0, 1, 2, 3, 4, 5, 6, 7, 8, 9, 10, 11] (lv' := [(17, .int (nI (spn L))), (10, .ref h), (9, .int (nI r)), (8, .int (nI m)), (7, .int (nI (wEar L))), (6, .int (nI (wRib L))), (5, .int (nI (nRib L))), (4, .int (nI S.length)), (3, .int (nI L.length)), (2, .int t), (1, .ref A.1), (0, .ref b)]) rfl ?_
      exact r1380
  by_cases n2 : 2 ≤ L.length
  · have hzl := hg (L.length - 1) (by omega)
    have hz0 := hg 0 (by omega)
    have hlt2 := srt_lt hb.2.1 hz0 hzl (by omega)
    refine V_iload_n C 7 1283 dL_law_1282 rfl rfl ?_
    refine V_iconst C (2 : Int32) 1284 dL_law_1283 rfl rfl ?_
    refine V_icmp_ge C 1291 1287 dL_law_1284 rfl rfl (fun _ => ?_) (fun e => absurd (show (2 : Int32) ≤ nI L.length from w_le (a := 2) n2) e)
    refine V_aload_n C 9 1292 dL_law_1291 rfl rfl ?_
    refine V_aload_n C 9 1293 dL_law_1292 rfl rfl ?_
    refine V_iload_n C 7 1294 dL_law_1293 rfl rfl ?_
    refine V_iconst C (1 : Int32) 1295 dL_law_1294 rfl rfl ?_
    refine V_isub C 1296 dL_law_1295 rfl ?_
    refine V_st (st2 := [.int (nI (L.length - 1)), .ref A.1, .ref A.1]) (by rw [show (1 : Int32) = nI 1 from rfl, pk_sub (by omega)] <;> rfl) ?_
    refine V_callXr C hBA hE ml_L_72 (pre := [(h, aI g 60 f)]) (post := []) (wc := xW g A x) (w1 := xW g A x) (rv := some (.int (nI (mId (L.getD (L.length - 1) (0, 0, 0, 0, 0)))))) (as := [.int (nI (L.length - 1))]) (rest := [.ref A.1]) (c_X3_markByPage (R := .inl ((nI (mId (L.getD (L.length - 1) (0, 0, 0, 0, 0)))), x)) hst (q_byPage hb hzl)) 1 1299 ([(h, aI g 60 f)] ++ (xW g A x ++ [])) dL_law_1296 rfl ⟨Nat.le_of_ble_eq_true rfl, Nat.le_of_ble_eq_true rfl⟩ rfl rfl rfl (xW_fst _ _ _ _) rfl rfl rfl (Nat.le_of_ble_eq_true rfl) ⟨by show cells + 0 ≤ 600516; omega, by show slots + 0 ≤ 7283748; omega⟩ ?_
    refine V_callXr C hBA hE ml_L_136 (pre := [(h, aI g 60 f)]) (post := []) (wc := xW g A x) (w1 := xW g A x) (rv := some (.int (nI (mPg (L.getD (L.length - 1) (0, 0, 0, 0, 0)))))) (as := [.int (nI (mId (L.getD (L.length - 1) (0, 0, 0, 0, 0))))]) (rest := []) (c_X3_pageOf (R := .inl ((nI (mPg (L.getD (L.length - 1) (0, 0, 0, 0, 0)))), x)) hst (q_pageOf hb (mem_get hzl))) 1 1302 ([(h, aI g 60 f)] ++ (xW g A x ++ [])) dL_law_1299 rfl ⟨Nat.le_of_ble_eq_true rfl, Nat.le_of_ble_eq_true rfl⟩ rfl rfl rfl (xW_fst _ _ _ _) rfl rfl rfl (Nat.le_of_ble_eq_true rfl) ⟨by show cells + 0 ≤ 600516; omega, by show slots + 0 ≤ 7283748; omega⟩ ?_
    refine V_aload_n C 9 1303 dL_law_1302 rfl rfl ?_
    refine V_aload_n C 9 1304 dL_law_1303 rfl rfl ?_
    refine V_iconst C (0 : Int32) 1305 dL_law_1304 rfl rfl ?_
    refine V_st (st2 := [.int (nI 0), .ref A.1, .ref A.1, .int (nI (mPg (L.getD (L.length - 1) (0, 0, 0, 0, 0))))]) (by exact rfl) ?_
    refine V_callXr C hBA hE ml_L_72 (pre := [(h, aI g 60 f)]) (post := []) (wc := xW g A x) (w1 := xW g A x) (rv := some (.int (nI (mId (L.getD 0 (0, 0, 0, 0, 0)))))) (as := [.int (nI 0)]) (rest := [.ref A.1, .int (nI (mPg (L.getD (L.length - 1) (0, 0, 0, 0, 0))))]) (c_X3_markByPage (R := .inl ((nI (mId (L.getD 0 (0, 0, 0, 0, 0)))), x)) hst (q_byPage hb hz0)) 1 1308 ([(h, aI g 60 f)] ++ (xW g A x ++ [])) dL_law_1305 rfl ⟨Nat.le_of_ble_eq_true rfl, Nat.le_of_ble_eq_true rfl⟩ rfl rfl rfl (xW_fst _ _ _ _) rfl rfl rfl (Nat.le_of_ble_eq_true rfl) ⟨by show cells + 0 ≤ 600516; omega, by show slots + 0 ≤ 7283748; omega⟩ ?_
    refine V_callXr C hBA hE ml_L_136 (pre := [(h, aI g 60 f)]) (post := []) (wc := xW g A x) (w1 := xW g A x) (rv := some (.int (nI (mPg (L.getD 0 (0, 0, 0, 0, 0)))))) (as := [.int (nI (mId (L.getD 0 (0, 0, 0, 0, 0))))]) (rest := [.int (nI (mPg (L.getD (L.length - 1) (0, 0, 0, 0, 0))))]) (c_X3_pageOf (R := .inl ((nI (mPg (L.getD 0 (0, 0, 0, 0, 0)))), x)) hst (q_pageOf hb (mem_get hz0))) 1 1311 ([(h, aI g 60 f)] ++ (xW g A x ++ [])) dL_law_1308 rfl ⟨Nat.le_of_ble_eq_true rfl, Nat.le_of_ble_eq_true rfl⟩ rfl rfl rfl (xW_fst _ _ _ _) rfl rfl rfl (Nat.le_of_ble_eq_true rfl) ⟨by show cells + 0 ≤ 600516; omega, by show slots + 0 ≤ 7283748; omega⟩ ?_
    refine V_isub C 1312 dL_law_1311 rfl ?_
    refine V_st (st2 := [.int (nI (spn L))]) (by unfold spn; rw [if_pos n2, pk_sub (by omega)]) ?_
    exact r1312
  · refine V_iload_n C 7 1283 dL_law_1282 rfl rfl ?_
    refine V_iconst C (2 : Int32) 1284 dL_law_1283 rfl rfl ?_
    refine V_icmp_ge C 1291 1287 dL_law_1284 rfl rfl (fun e => absurd e (show ¬ (2 : Int32) ≤ nI L.length from w_nle (a := 2) (by omega))) (fun _ => ?_)
    refine V_iconst C (0 : Int32) 1288 dL_law_1287 rfl rfl ?_
    refine V_goto C 1312 dL_law_1288 rfl ?_
    refine V_st (st2 := [.int (nI (spn L))]) (by unfold spn; rw [if_neg n2]; rfl) ?_
    exact r1312
set_option maxRecDepth 8000 in
set_option maxHeartbeats 4000000 in
theorem law_J {K : KT} {g : G0} {A : XA} {x : XV} {L : List M5} {S : List Nat} {nid r b cells slots h m : Nat} {f : Nat → Int32} {t : Int32} (Lk : LKx K g) (hb : BK x L S nid r) (hr : cells ≤ 600500 ∧ slots ≤ 7283000) (ke : V K cells slots ([(h, aI g 60 f)] ++ (xW g A x ++ [])) [(10, .ref h), (9, .int (nI r)), (8, .int (nI m)), (7, .int (nI (wEar L))), (6, .int (nI (wRib L))), (5, .int (nI (nRib L))), (4, .int (nI S.length)), (3, .int (nI L.length)), (2, .int t), (1, .ref A.1), (0, .ref b)] [] 1538) : V K cells slots ([(h, aI g 60 f)] ++ (xW g A x ++ [])) [(10, .ref h), (9, .int (nI r)), (8, .int (nI m)), (7, .int (nI (wEar L))), (6, .int (nI (wRib L))), (5, .int (nI (nRib L))), (4, .int (nI S.length)), (3, .int (nI L.length)), (2, .int t), (1, .ref A.1), (0, .ref b)] [] 1422 := by
  obtain ⟨C, hBA, hQ, hst, h23⟩ := id Lk
  have hlt : ∀ i, i < 23 → i < kn K := fun i h => by rw [h23]; exact h
  have hE := hQ.2.2.2.2.2
  have hN := hQ.sk.2.2.2.2
  obtain ⟨hr1, hr2⟩ := hr
  have hr60 := hb.2.2.2.2.2.1.1
  have hlen := hb.len
  have hpgs : ∀ z ∈ L, mPg z < 60 := fun z hz => (hb.mk hz).2.1
  have hwrs : ∀ z ∈ L, mSt z ≠ 0 → mWr z = 0 := fun z hz => (hb.mk hz).2.2.2.2.2
  refine V_iconst C (1 : Int32) 1423 dL_law_1422 rfl rfl ?_
  refine V_istore C 1425 [(18, .int (1 : Int32)), (10, .ref h), (9, .int (nI r)), (8, .int (nI m)), (7, .int (nI (wEar L))), (6, .int (nI (wRib L))), (5, .int (nI (nRib L))), (4, .int (nI S.length)), (3, .int (nI L.length)), (2, .int t), (1, .ref A.1), (0, .ref b)] dL_law_1423 rfl (hlt 18 (by decide)) rfl ?_
  have loop : ∀ d j, j + d = 14 → 1 ≤ j → V K cells slots ([(h, aI g 60 f)] ++ (xW g A x ++ [])) [(18, .int (nI j)), (10, .ref h), (9, .int (nI r)), (8, .int (nI m)), (7, .int (nI (wEar L))), (6, .int (nI (wRib L))), (5, .int (nI (nRib L))), (4, .int (nI S.length)), (3, .int (nI L.length)), (2, .int t), (1, .ref A.1), (0, .ref b)] [] 1425 := by
    intro d
    induction d with
    | zero =>
      intro j hd h1
      refine V_iload C 0 1427 dL_law_1425 rfl rfl ?_
      refine V_iload_n C 8 1428 dL_law_1427 rfl rfl ?_
      refine V_icmp_ge C 1538 1431 dL_law_1428 rfl rfl (fun _ => ?_) (fun e => absurd (show nI L.length ≤ nI j from w_le (by omega)) e)
      refine V_lv [1, 2, 3, 4, 5, 6, 7, 8, 9, 10, 11] (lv' := [(10, .ref h), (9, .int (nI r)), (8, .int (nI m)), (7, .int (nI (wEar L))), (6, .int (nI (wRib L))), (5, .int (nI (nRib L))), (4, .int (nI S.length)), (3, .int (nI L.length)), (2, .int t), (1, .ref A.1), (0, .ref b)]) rfl ?_
      exact ke
    | succ d ih =>
      intro j hd h1
      by_cases hj : j < L.length
      · obtain ⟨y, hy, ey⟩ := rnk_surj hb.2.2.1 (show j - 1 < L.length by omega)
        obtain ⟨z, hz, ez⟩ := rnk_surj hb.2.2.1 hj
        have qy : f_X3_markByWeight x (nI (j - 1)) = some (.inl (nI (mId y), x)) := by rw [← ey]; exact q_byWeight hb hy
        have qz : f_X3_markByWeight x (nI j) = some (.inl (nI (mId z), x)) := by rw [← ez]; exact q_byWeight hb hz
        have ha := ahd_iff.mp (ahd_next hb.2.2.1 hy hz (by omega))
        have gy := (hb.mk hy).2.2.1
        have gz := (hb.mk hz).2.2.1
        have py := hpgs y hy
        have pz := hpgs z hz
        refine V_iload C 0 1427 dL_law_1425 rfl rfl ?_
        refine V_iload_n C 8 1428 dL_law_1427 rfl rfl ?_
        refine V_icmp_ge C 1538 1431 dL_law_1428 rfl rfl (fun e => absurd e (show ¬ nI L.length ≤ nI j from w_nle hj)) (fun _ => ?_)
        refine V_aload_n C 10 1432 dL_law_1431 rfl rfl ?_
        refine V_iload C 0 1434 dL_law_1432 rfl rfl ?_
        refine V_iconst C (1 : Int32) 1435 dL_law_1434 rfl rfl ?_
        refine V_isub C 1436 dL_law_1435 rfl ?_
        refine V_st (st2 := [.int (nI (j - 1)), .ref A.1]) (by rw [show (1 : Int32) = nI 1 from rfl, pk_sub (by omega)] <;> rfl) ?_
        refine V_callXr C hBA hE ml_L_75 (pre := [(h, aI g 60 f)]) (post := []) (wc := xW g A x) (w1 := xW g A x) (rv := some (.int (nI (mId y)))) (as := [.int (nI (j - 1))]) (rest := []) (c_X3_markByWeight (R := .inl ((nI (mId y)), x)) hst (qy)) 1 1439 ([(h, aI g 60 f)] ++ (xW g A x ++ [])) dL_law_1436 rfl ⟨Nat.le_of_ble_eq_true rfl, Nat.le_of_ble_eq_true rfl⟩ rfl rfl rfl (xW_fst _ _ _ _) rfl rfl rfl (Nat.le_of_ble_eq_true rfl) ⟨by show cells + 0 ≤ 600516; omega, by show slots + 0 ≤ 7283748; omega⟩ ?_
        refine V_istore C 1441 [(19, .int (nI (mId y))), (18, .int (nI j)), (10, .ref h), (9, .int (nI r)), (8, .int (nI m)), (7, .int (nI (wEar L))), (6, .int (nI (wRib L))), (5, .int (nI (nRib L))), (4, .int (nI S.length)), (3, .int (nI L.length)), (2, .int t), (1, .ref A.1), (0, .ref b)] dL_law_1439 rfl (hlt 19 (by decide)) rfl ?_
        refine V_aload_n C 11 1442 dL_law_1441 rfl rfl ?_
        refine V_iload C 1 1444 dL_law_1442 rfl rfl ?_
        refine V_callXr C hBA hE ml_L_75 (pre := [(h, aI g 60 f)]) (post := []) (wc := xW g A x) (w1 := xW g A x) (rv := some (.int (nI (mId z)))) (as := [.int (nI j)]) (rest := []) (c_X3_markByWeight (R := .inl ((nI (mId z)), x)) hst (qz)) 1 1447 ([(h, aI g 60 f)] ++ (xW g A x ++ [])) dL_law_1444 rfl ⟨Nat.le_of_ble_eq_true rfl, Nat.le_of_ble_eq_true rfl⟩ rfl rfl rfl (xW_fst _ _ _ _) rfl rfl rfl (Nat.le_of_ble_eq_true rfl) ⟨by show cells + 0 ≤ 600516; omega, by show slots + 0 ≤ 7283748; omega⟩ ?_
        refine V_istore C 1449 [(20, .int (nI (mId z))), (19, .int (nI (mId y))), (18, .int (nI j)), (10, .ref h), (9, .int (nI r)), (8, .int (nI m)), (7, .int (nI (wEar L))), (6, .int (nI (wRib L))), (5, .int (nI (nRib L))), (4, .int (nI S.length)), (3, .int (nI L.length)), (2, .int t), (1, .ref A.1), (0, .ref b)] dL_law_1447 rfl (hlt 20 (by decide)) rfl ?_
        refine V_aload_n C 12 1450 dL_law_1449 rfl rfl ?_
        refine V_iload C 1 1452 dL_law_1450 rfl rfl ?_
        refine V_callXr C hBA hE ml_L_139 (pre := [(h, aI g 60 f)]) (post := []) (wc := xW g A x) (w1 := xW g A x) (rv := some (.int (nI (mWt y)))) (as := [.int (nI (mId y))]) (rest := []) (c_X3_weightOf (R := .inl ((nI (mWt y)), x)) hst (q_weightOf hb hy)) 1 1455 ([(h, aI g 60 f)] ++ (xW g A x ++ [])) dL_law_1452 rfl ⟨Nat.le_of_ble_eq_true rfl, Nat.le_of_ble_eq_true rfl⟩ rfl rfl rfl (xW_fst _ _ _ _) rfl rfl rfl (Nat.le_of_ble_eq_true rfl) ⟨by show cells + 0 ≤ 600516; omega, by show slots + 0 ≤ 7283748; omega⟩ ?_
        refine V_aload_n C 12 1456 dL_law_1455 rfl rfl ?_
        refine V_iload C 0 1458 dL_law_1456 rfl rfl ?_
        refine V_callXr C hBA hE ml_L_139 (pre := [(h, aI g 60 f)]) (post := []) (wc := xW g A x) (w1 := xW g A x) (rv := some (.int (nI (mWt z)))) (as := [.int (nI (mId z))]) (rest := [.int (nI (mWt y))]) (c_X3_weightOf (R := .inl ((nI (mWt z)), x)) hst (q_weightOf hb hz)) 1 1461 ([(h, aI g 60 f)] ++ (xW g A x ++ [])) dL_law_1458 rfl ⟨Nat.le_of_ble_eq_true rfl, Nat.le_of_ble_eq_true rfl⟩ rfl rfl rfl (xW_fst _ _ _ _) rfl rfl rfl (Nat.le_of_ble_eq_true rfl) ⟨by show cells + 0 ≤ 600516; omega, by show slots + 0 ≤ 7283748; omega⟩ ?_
        refine V_isub C 1462 dL_law_1461 rfl ?_
        refine V_istore C 1464 [(21, .int ((nI (mWt y)) - (nI (mWt z)))), (20, .int (nI (mId z))), (19, .int (nI (mId y))), (18, .int (nI j)), (10, .ref h), (9, .int (nI r)), (8, .int (nI m)), (7, .int (nI (wEar L))), (6, .int (nI (wRib L))), (5, .int (nI (nRib L))), (4, .int (nI S.length)), (3, .int (nI L.length)), (2, .int t), (1, .ref A.1), (0, .ref b)] dL_law_1462 rfl (hlt 21 (by decide)) rfl ?_
        refine V_aload_n C 13 1465 dL_law_1464 rfl rfl ?_
        refine V_iload C 2 1467 dL_law_1465 rfl rfl ?_
        refine V_callXr C hBA hE ml_L_144 (pre := [(h, aI g 60 f)]) (post := []) (wc := xW g A x) (w1 := xW g A x) (rv := some (.int (b2 (decide (mSt y ≠ 0))))) (as := [.int (nI (mId y))]) (rest := []) (c_X3_isRibbon (R := .inl ((b2 (decide (mSt y ≠ 0))), x)) hst (q_isRibbon hb hy)) 1 1470 ([(h, aI g 60 f)] ++ (xW g A x ++ [])) dL_law_1467 rfl ⟨Nat.le_of_ble_eq_true rfl, Nat.le_of_ble_eq_true rfl⟩ rfl rfl rfl (xW_fst _ _ _ _) rfl rfl rfl (Nat.le_of_ble_eq_true rfl) ⟨by show cells + 0 ≤ 600516; omega, by show slots + 0 ≤ 7283748; omega⟩ ?_
        have r1532 : V K cells slots ([(h, aI g 60 f)] ++ (xW g A x ++ [])) [(18, .int (nI j)), (10, .ref h), (9, .int (nI r)), (8, .int (nI m)), (7, .int (nI (wEar L))), (6, .int (nI (wRib L))), (5, .int (nI (nRib L))), (4, .int (nI S.length)), (3, .int (nI L.length)), (2, .int t), (1, .ref A.1), (0, .ref b)] [] 1532 := by
          refine V_iinc C 0 (nI (j + 1)) 1535 [(18, .int (nI (j + 1))), (10, .ref h), (9, .int (nI r)), (8, .int (nI m)), (7, .int (nI (wEar L))), (6, .int (nI (wRib L))), (5, .int (nI (nRib L))), (4, .int (nI S.length)), (3, .int (nI L.length)), (2, .int t), (1, .ref A.1), (0, .ref b)] dL_law_1532 rfl rfl (nI_1 j) (hlt 18 (by decide)) rfl ?_
          refine V_goto C 1425 dL_law_1535 rfl ?_
          exact ih (j + 1) (by omega) (by omega)
        by_cases hy0 : mSt y = 0
        · by_cases hz0 : mSt z = 0
          · refine V_st (st2 := [.int (0 : Int32)]) (by rw [decide_eq_false (fun q => q hy0)]; rfl) ?_
            refine V_if_eq C 1477 1473 dL_law_1470 rfl rfl (fun _ => ?_) (fun e => absurd rfl e)
            refine V_iconst C (0 : Int32) 1478 dL_law_1477 rfl rfl ?_
            refine V_aload_n C 13 1479 dL_law_1478 rfl rfl ?_
            refine V_iload C 1 1481 dL_law_1479 rfl rfl ?_
            refine V_callXr C hBA hE ml_L_144 (pre := [(h, aI g 60 f)]) (post := []) (wc := xW g A x) (w1 := xW g A x) (rv := some (.int (b2 (decide (mSt z ≠ 0))))) (as := [.int (nI (mId z))]) (rest := [.int (0 : Int32)]) (c_X3_isRibbon (R := .inl ((b2 (decide (mSt z ≠ 0))), x)) hst (q_isRibbon hb hz)) 1 1484 ([(h, aI g 60 f)] ++ (xW g A x ++ [])) dL_law_1481 rfl ⟨Nat.le_of_ble_eq_true rfl, Nat.le_of_ble_eq_true rfl⟩ rfl rfl rfl (xW_fst _ _ _ _) rfl rfl rfl (Nat.le_of_ble_eq_true rfl) ⟨by show cells + 0 ≤ 600516; omega, by show slots + 0 ≤ 7283748; omega⟩ ?_
            refine V_st (st2 := [.int (0 : Int32), .int (0 : Int32)]) (by rw [decide_eq_false (fun q => q hz0)]; rfl) ?_
            refine V_if_eq C 1491 1487 dL_law_1484 rfl rfl (fun _ => ?_) (fun e => absurd rfl e)
            refine V_iconst C (0 : Int32) 1492 dL_law_1491 rfl rfl ?_
            refine V_isub C 1493 dL_law_1492 rfl ?_
            refine V_istore C 1495 [(22, .int ((0 : Int32) - (0 : Int32))), (21, .int ((nI (mWt y)) - (nI (mWt z)))), (20, .int (nI (mId z))), (19, .int (nI (mId y))), (18, .int (nI j)), (10, .ref h), (9, .int (nI r)), (8, .int (nI m)), (7, .int (nI (wEar L))), (6, .int (nI (wRib L))), (5, .int (nI (nRib L))), (4, .int (nI S.length)), (3, .int (nI L.length)), (2, .int t), (1, .ref A.1), (0, .ref b)] dL_law_1493 rfl (hlt 22 (by decide)) rfl ?_
            refine V_iload C 1 1497 dL_law_1495 rfl rfl ?_
            rcases ha with q1 | ⟨q1, ⟨q2, q3⟩ | ⟨q2, q3⟩⟩
            · refine V_if_lt C 1530 1500 dL_law_1497 rfl rfl (fun e => absurd e (fun e => absurd ((wy_lt (by omega) (by omega)).mp e) (by omega))) (fun _ => ?_)
              refine V_iload C 1 1502 dL_law_1500 rfl rfl ?_
              refine V_if_ne C 1532 1505 dL_law_1502 rfl rfl (fun _ => ?_) (fun e => absurd e (fun e => absurd ((wy_ne (by omega) (by omega)).mp e) (by omega)))
              refine V_lv [4, 5, 6, 7, 8, 9, 10, 11, 12, 13, 14, 15] (lv' := [(18, .int (nI j)), (10, .ref h), (9, .int (nI r)), (8, .int (nI m)), (7, .int (nI (wEar L))), (6, .int (nI (wRib L))), (5, .int (nI (nRib L))), (4, .int (nI S.length)), (3, .int (nI L.length)), (2, .int t), (1, .ref A.1), (0, .ref b)]) rfl ?_
              exact r1532
            · exact absurd hy0 q2
            · refine V_if_lt C 1530 1500 dL_law_1497 rfl rfl (fun e => absurd e (fun e => absurd ((wy_lt (by omega) (by omega)).mp e) (by omega))) (fun _ => ?_)
              refine V_iload C 1 1502 dL_law_1500 rfl rfl ?_
              refine V_if_ne C 1532 1505 dL_law_1502 rfl rfl (fun e => absurd ((wy_ne (by omega) (by omega)).mpr q1) e) (fun _ => ?_)
              refine V_iload C 0 1507 dL_law_1505 rfl rfl ?_
              refine V_if_lt C 1530 1510 dL_law_1507 rfl rfl (fun e => absurd e (by decide)) (fun _ => ?_)
              refine V_iload C 0 1512 dL_law_1510 rfl rfl ?_
              refine V_if_ne C 1532 1515 dL_law_1512 rfl rfl (fun e => absurd (by decide) e) (fun _ => ?_)
              refine V_aload_n C 14 1516 dL_law_1515 rfl rfl ?_
              refine V_iload C 3 1518 dL_law_1516 rfl rfl ?_
              refine V_callXr C hBA hE ml_L_136 (pre := [(h, aI g 60 f)]) (post := []) (wc := xW g A x) (w1 := xW g A x) (rv := some (.int (nI (mPg y)))) (as := [.int (nI (mId y))]) (rest := []) (c_X3_pageOf (R := .inl ((nI (mPg y)), x)) hst (q_pageOf hb hy)) 1 1521 ([(h, aI g 60 f)] ++ (xW g A x ++ [])) dL_law_1518 rfl ⟨Nat.le_of_ble_eq_true rfl, Nat.le_of_ble_eq_true rfl⟩ rfl rfl rfl (xW_fst _ _ _ _) rfl rfl rfl (Nat.le_of_ble_eq_true rfl) ⟨by show cells + 0 ≤ 600516; omega, by show slots + 0 ≤ 7283748; omega⟩ ?_
              refine V_aload_n C 14 1522 dL_law_1521 rfl rfl ?_
              refine V_iload C 2 1524 dL_law_1522 rfl rfl ?_
              refine V_callXr C hBA hE ml_L_136 (pre := [(h, aI g 60 f)]) (post := []) (wc := xW g A x) (w1 := xW g A x) (rv := some (.int (nI (mPg z)))) (as := [.int (nI (mId z))]) (rest := [.int (nI (mPg y))]) (c_X3_pageOf (R := .inl ((nI (mPg z)), x)) hst (q_pageOf hb hz)) 1 1527 ([(h, aI g 60 f)] ++ (xW g A x ++ [])) dL_law_1524 rfl ⟨Nat.le_of_ble_eq_true rfl, Nat.le_of_ble_eq_true rfl⟩ rfl rfl rfl (xW_fst _ _ _ _) rfl rfl rfl (Nat.le_of_ble_eq_true rfl) ⟨by show cells + 0 ≤ 600516; omega, by show slots + 0 ≤ 7283748; omega⟩ ?_
              refine V_icmp_le C 1532 1530 dL_law_1527 rfl rfl (fun _ => ?_) (fun e => absurd (show nI (mPg y) ≤ nI (mPg z) from w_le (by omega)) e)
              refine V_lv [4, 5, 6, 7, 8, 9, 10, 11, 12, 13, 14, 15] (lv' := [(18, .int (nI j)), (10, .ref h), (9, .int (nI r)), (8, .int (nI m)), (7, .int (nI (wEar L))), (6, .int (nI (wRib L))), (5, .int (nI (nRib L))), (4, .int (nI S.length)), (3, .int (nI L.length)), (2, .int t), (1, .ref A.1), (0, .ref b)]) rfl ?_
              exact r1532
          · refine V_st (st2 := [.int (0 : Int32)]) (by rw [decide_eq_false (fun q => q hy0)]; rfl) ?_
            refine V_if_eq C 1477 1473 dL_law_1470 rfl rfl (fun _ => ?_) (fun e => absurd rfl e)
            refine V_iconst C (0 : Int32) 1478 dL_law_1477 rfl rfl ?_
            refine V_aload_n C 13 1479 dL_law_1478 rfl rfl ?_
            refine V_iload C 1 1481 dL_law_1479 rfl rfl ?_
            refine V_callXr C hBA hE ml_L_144 (pre := [(h, aI g 60 f)]) (post := []) (wc := xW g A x) (w1 := xW g A x) (rv := some (.int (b2 (decide (mSt z ≠ 0))))) (as := [.int (nI (mId z))]) (rest := [.int (0 : Int32)]) (c_X3_isRibbon (R := .inl ((b2 (decide (mSt z ≠ 0))), x)) hst (q_isRibbon hb hz)) 1 1484 ([(h, aI g 60 f)] ++ (xW g A x ++ [])) dL_law_1481 rfl ⟨Nat.le_of_ble_eq_true rfl, Nat.le_of_ble_eq_true rfl⟩ rfl rfl rfl (xW_fst _ _ _ _) rfl rfl rfl (Nat.le_of_ble_eq_true rfl) ⟨by show cells + 0 ≤ 600516; omega, by show slots + 0 ≤ 7283748; omega⟩ ?_
            refine V_st (st2 := [.int (1 : Int32), .int (0 : Int32)]) (by rw [decide_eq_true hz0]; rfl) ?_
            refine V_if_eq C 1491 1487 dL_law_1484 rfl rfl (fun e => absurd e (show ¬ (1 : Int32) = 0 by decide)) (fun _ => ?_)
            refine V_iconst C (1 : Int32) 1488 dL_law_1487 rfl rfl ?_
            refine V_goto C 1492 dL_law_1488 rfl ?_
            refine V_isub C 1493 dL_law_1492 rfl ?_
            refine V_istore C 1495 [(22, .int ((0 : Int32) - (1 : Int32))), (21, .int ((nI (mWt y)) - (nI (mWt z)))), (20, .int (nI (mId z))), (19, .int (nI (mId y))), (18, .int (nI j)), (10, .ref h), (9, .int (nI r)), (8, .int (nI m)), (7, .int (nI (wEar L))), (6, .int (nI (wRib L))), (5, .int (nI (nRib L))), (4, .int (nI S.length)), (3, .int (nI L.length)), (2, .int t), (1, .ref A.1), (0, .ref b)] dL_law_1493 rfl (hlt 22 (by decide)) rfl ?_
            refine V_iload C 1 1497 dL_law_1495 rfl rfl ?_
            rcases ha with q1 | ⟨q1, ⟨q2, q3⟩ | ⟨q2, q3⟩⟩
            · refine V_if_lt C 1530 1500 dL_law_1497 rfl rfl (fun e => absurd e (fun e => absurd ((wy_lt (by omega) (by omega)).mp e) (by omega))) (fun _ => ?_)
              refine V_iload C 1 1502 dL_law_1500 rfl rfl ?_
              refine V_if_ne C 1532 1505 dL_law_1502 rfl rfl (fun _ => ?_) (fun e => absurd e (fun e => absurd ((wy_ne (by omega) (by omega)).mp e) (by omega)))
              refine V_lv [4, 5, 6, 7, 8, 9, 10, 11, 12, 13, 14, 15] (lv' := [(18, .int (nI j)), (10, .ref h), (9, .int (nI r)), (8, .int (nI m)), (7, .int (nI (wEar L))), (6, .int (nI (wRib L))), (5, .int (nI (nRib L))), (4, .int (nI S.length)), (3, .int (nI L.length)), (2, .int t), (1, .ref A.1), (0, .ref b)]) rfl ?_
              exact r1532
            · exact absurd hy0 q2
            · exact absurd (q2.mp hy0) hz0
        · by_cases hz0 : mSt z = 0
          · refine V_st (st2 := [.int (1 : Int32)]) (by rw [decide_eq_true hy0]; rfl) ?_
            refine V_if_eq C 1477 1473 dL_law_1470 rfl rfl (fun e => absurd e (show ¬ (1 : Int32) = 0 by decide)) (fun _ => ?_)
            refine V_iconst C (1 : Int32) 1474 dL_law_1473 rfl rfl ?_
            refine V_goto C 1478 dL_law_1474 rfl ?_
            refine V_aload_n C 13 1479 dL_law_1478 rfl rfl ?_
            refine V_iload C 1 1481 dL_law_1479 rfl rfl ?_
            refine V_callXr C hBA hE ml_L_144 (pre := [(h, aI g 60 f)]) (post := []) (wc := xW g A x) (w1 := xW g A x) (rv := some (.int (b2 (decide (mSt z ≠ 0))))) (as := [.int (nI (mId z))]) (rest := [.int (1 : Int32)]) (c_X3_isRibbon (R := .inl ((b2 (decide (mSt z ≠ 0))), x)) hst (q_isRibbon hb hz)) 1 1484 ([(h, aI g 60 f)] ++ (xW g A x ++ [])) dL_law_1481 rfl ⟨Nat.le_of_ble_eq_true rfl, Nat.le_of_ble_eq_true rfl⟩ rfl rfl rfl (xW_fst _ _ _ _) rfl rfl rfl (Nat.le_of_ble_eq_true rfl) ⟨by show cells + 0 ≤ 600516; omega, by show slots + 0 ≤ 7283748; omega⟩ ?_
            refine V_st (st2 := [.int (0 : Int32), .int (1 : Int32)]) (by rw [decide_eq_false (fun q => q hz0)]; rfl) ?_
            refine V_if_eq C 1491 1487 dL_law_1484 rfl rfl (fun _ => ?_) (fun e => absurd rfl e)
            refine V_iconst C (0 : Int32) 1492 dL_law_1491 rfl rfl ?_
            refine V_isub C 1493 dL_law_1492 rfl ?_
            refine V_istore C 1495 [(22, .int ((1 : Int32) - (0 : Int32))), (21, .int ((nI (mWt y)) - (nI (mWt z)))), (20, .int (nI (mId z))), (19, .int (nI (mId y))), (18, .int (nI j)), (10, .ref h), (9, .int (nI r)), (8, .int (nI m)), (7, .int (nI (wEar L))), (6, .int (nI (wRib L))), (5, .int (nI (nRib L))), (4, .int (nI S.length)), (3, .int (nI L.length)), (2, .int t), (1, .ref A.1), (0, .ref b)] dL_law_1493 rfl (hlt 22 (by decide)) rfl ?_
            refine V_iload C 1 1497 dL_law_1495 rfl rfl ?_
            rcases ha with q1 | ⟨q1, ⟨q2, q3⟩ | ⟨q2, q3⟩⟩
            · refine V_if_lt C 1530 1500 dL_law_1497 rfl rfl (fun e => absurd e (fun e => absurd ((wy_lt (by omega) (by omega)).mp e) (by omega))) (fun _ => ?_)
              refine V_iload C 1 1502 dL_law_1500 rfl rfl ?_
              refine V_if_ne C 1532 1505 dL_law_1502 rfl rfl (fun _ => ?_) (fun e => absurd e (fun e => absurd ((wy_ne (by omega) (by omega)).mp e) (by omega)))
              refine V_lv [4, 5, 6, 7, 8, 9, 10, 11, 12, 13, 14, 15] (lv' := [(18, .int (nI j)), (10, .ref h), (9, .int (nI r)), (8, .int (nI m)), (7, .int (nI (wEar L))), (6, .int (nI (wRib L))), (5, .int (nI (nRib L))), (4, .int (nI S.length)), (3, .int (nI L.length)), (2, .int t), (1, .ref A.1), (0, .ref b)]) rfl ?_
              exact r1532
            · refine V_if_lt C 1530 1500 dL_law_1497 rfl rfl (fun e => absurd e (fun e => absurd ((wy_lt (by omega) (by omega)).mp e) (by omega))) (fun _ => ?_)
              refine V_iload C 1 1502 dL_law_1500 rfl rfl ?_
              refine V_if_ne C 1532 1505 dL_law_1502 rfl rfl (fun e => absurd ((wy_ne (by omega) (by omega)).mpr q1) e) (fun _ => ?_)
              refine V_iload C 0 1507 dL_law_1505 rfl rfl ?_
              refine V_if_lt C 1530 1510 dL_law_1507 rfl rfl (fun e => absurd e (by decide)) (fun _ => ?_)
              refine V_iload C 0 1512 dL_law_1510 rfl rfl ?_
              refine V_if_ne C 1532 1515 dL_law_1512 rfl rfl (fun _ => ?_) (fun e => absurd e (by decide))
              refine V_lv [4, 5, 6, 7, 8, 9, 10, 11, 12, 13, 14, 15] (lv' := [(18, .int (nI j)), (10, .ref h), (9, .int (nI r)), (8, .int (nI m)), (7, .int (nI (wEar L))), (6, .int (nI (wRib L))), (5, .int (nI (nRib L))), (4, .int (nI S.length)), (3, .int (nI L.length)), (2, .int t), (1, .ref A.1), (0, .ref b)]) rfl ?_
              exact r1532
            · exact absurd (q2.mpr hz0) hy0
          · refine V_st (st2 := [.int (1 : Int32)]) (by rw [decide_eq_true hy0]; rfl) ?_
            refine V_if_eq C 1477 1473 dL_law_1470 rfl rfl (fun e => absurd e (show ¬ (1 : Int32) = 0 by decide)) (fun _ => ?_)
            refine V_iconst C (1 : Int32) 1474 dL_law_1473 rfl rfl ?_
            refine V_goto C 1478 dL_law_1474 rfl ?_
            refine V_aload_n C 13 1479 dL_law_1478 rfl rfl ?_
            refine V_iload C 1 1481 dL_law_1479 rfl rfl ?_
            refine V_callXr C hBA hE ml_L_144 (pre := [(h, aI g 60 f)]) (post := []) (wc := xW g A x) (w1 := xW g A x) (rv := some (.int (b2 (decide (mSt z ≠ 0))))) (as := [.int (nI (mId z))]) (rest := [.int (1 : Int32)]) (c_X3_isRibbon (R := .inl ((b2 (decide (mSt z ≠ 0))), x)) hst (q_isRibbon hb hz)) 1 1484 ([(h, aI g 60 f)] ++ (xW g A x ++ [])) dL_law_1481 rfl ⟨Nat.le_of_ble_eq_true rfl, Nat.le_of_ble_eq_true rfl⟩ rfl rfl rfl (xW_fst _ _ _ _) rfl rfl rfl (Nat.le_of_ble_eq_true rfl) ⟨by show cells + 0 ≤ 600516; omega, by show slots + 0 ≤ 7283748; omega⟩ ?_
            refine V_st (st2 := [.int (1 : Int32), .int (1 : Int32)]) (by rw [decide_eq_true hz0]; rfl) ?_
            refine V_if_eq C 1491 1487 dL_law_1484 rfl rfl (fun e => absurd e (show ¬ (1 : Int32) = 0 by decide)) (fun _ => ?_)
            refine V_iconst C (1 : Int32) 1488 dL_law_1487 rfl rfl ?_
            refine V_goto C 1492 dL_law_1488 rfl ?_
            refine V_isub C 1493 dL_law_1492 rfl ?_
            refine V_istore C 1495 [(22, .int ((1 : Int32) - (1 : Int32))), (21, .int ((nI (mWt y)) - (nI (mWt z)))), (20, .int (nI (mId z))), (19, .int (nI (mId y))), (18, .int (nI j)), (10, .ref h), (9, .int (nI r)), (8, .int (nI m)), (7, .int (nI (wEar L))), (6, .int (nI (wRib L))), (5, .int (nI (nRib L))), (4, .int (nI S.length)), (3, .int (nI L.length)), (2, .int t), (1, .ref A.1), (0, .ref b)] dL_law_1493 rfl (hlt 22 (by decide)) rfl ?_
            refine V_iload C 1 1497 dL_law_1495 rfl rfl ?_
            rcases ha with q1 | ⟨q1, ⟨q2, q3⟩ | ⟨q2, q3⟩⟩
            · refine V_if_lt C 1530 1500 dL_law_1497 rfl rfl (fun e => absurd e (fun e => absurd ((wy_lt (by omega) (by omega)).mp e) (by omega))) (fun _ => ?_)
              refine V_iload C 1 1502 dL_law_1500 rfl rfl ?_
              refine V_if_ne C 1532 1505 dL_law_1502 rfl rfl (fun _ => ?_) (fun e => absurd e (fun e => absurd ((wy_ne (by omega) (by omega)).mp e) (by omega)))
              refine V_lv [4, 5, 6, 7, 8, 9, 10, 11, 12, 13, 14, 15] (lv' := [(18, .int (nI j)), (10, .ref h), (9, .int (nI r)), (8, .int (nI m)), (7, .int (nI (wEar L))), (6, .int (nI (wRib L))), (5, .int (nI (nRib L))), (4, .int (nI S.length)), (3, .int (nI L.length)), (2, .int t), (1, .ref A.1), (0, .ref b)]) rfl ?_
              exact r1532
            · exact absurd q3 hz0
            · refine V_if_lt C 1530 1500 dL_law_1497 rfl rfl (fun e => absurd e (fun e => absurd ((wy_lt (by omega) (by omega)).mp e) (by omega))) (fun _ => ?_)
              refine V_iload C 1 1502 dL_law_1500 rfl rfl ?_
              refine V_if_ne C 1532 1505 dL_law_1502 rfl rfl (fun e => absurd ((wy_ne (by omega) (by omega)).mpr q1) e) (fun _ => ?_)
              refine V_iload C 0 1507 dL_law_1505 rfl rfl ?_
              refine V_if_lt C 1530 1510 dL_law_1507 rfl rfl (fun e => absurd e (by decide)) (fun _ => ?_)
              refine V_iload C 0 1512 dL_law_1510 rfl rfl ?_
              refine V_if_ne C 1532 1515 dL_law_1512 rfl rfl (fun e => absurd (by decide) e) (fun _ => ?_)
              refine V_aload_n C 14 1516 dL_law_1515 rfl rfl ?_
              refine V_iload C 3 1518 dL_law_1516 rfl rfl ?_
              refine V_callXr C hBA hE ml_L_136 (pre := [(h, aI g 60 f)]) (post := []) (wc := xW g A x) (w1 := xW g A x) (rv := some (.int (nI (mPg y)))) (as := [.int (nI (mId y))]) (rest := []) (c_X3_pageOf (R := .inl ((nI (mPg y)), x)) hst (q_pageOf hb hy)) 1 1521 ([(h, aI g 60 f)] ++ (xW g A x ++ [])) dL_law_1518 rfl ⟨Nat.le_of_ble_eq_true rfl, Nat.le_of_ble_eq_true rfl⟩ rfl rfl rfl (xW_fst _ _ _ _) rfl rfl rfl (Nat.le_of_ble_eq_true rfl) ⟨by show cells + 0 ≤ 600516; omega, by show slots + 0 ≤ 7283748; omega⟩ ?_
              refine V_aload_n C 14 1522 dL_law_1521 rfl rfl ?_
              refine V_iload C 2 1524 dL_law_1522 rfl rfl ?_
              refine V_callXr C hBA hE ml_L_136 (pre := [(h, aI g 60 f)]) (post := []) (wc := xW g A x) (w1 := xW g A x) (rv := some (.int (nI (mPg z)))) (as := [.int (nI (mId z))]) (rest := [.int (nI (mPg y))]) (c_X3_pageOf (R := .inl ((nI (mPg z)), x)) hst (q_pageOf hb hz)) 1 1527 ([(h, aI g 60 f)] ++ (xW g A x ++ [])) dL_law_1524 rfl ⟨Nat.le_of_ble_eq_true rfl, Nat.le_of_ble_eq_true rfl⟩ rfl rfl rfl (xW_fst _ _ _ _) rfl rfl rfl (Nat.le_of_ble_eq_true rfl) ⟨by show cells + 0 ≤ 600516; omega, by show slots + 0 ≤ 7283748; omega⟩ ?_
              refine V_icmp_le C 1532 1530 dL_law_1527 rfl rfl (fun _ => ?_) (fun e => absurd (show nI (mPg y) ≤ nI (mPg z) from w_le (by omega)) e)
              refine V_lv [4, 5, 6, 7, 8, 9, 10, 11, 12, 13, 14, 15] (lv' := [(18, .int (nI j)), (10, .ref h), (9, .int (nI r)), (8, .int (nI m)), (7, .int (nI (wEar L))), (6, .int (nI (wRib L))), (5, .int (nI (nRib L))), (4, .int (nI S.length)), (3, .int (nI L.length)), (2, .int t), (1, .ref A.1), (0, .ref b)]) rfl ?_
              exact r1532
      · refine V_iload C 0 1427 dL_law_1425 rfl rfl ?_
        refine V_iload_n C 8 1428 dL_law_1427 rfl rfl ?_
        refine V_icmp_ge C 1538 1431 dL_law_1428 rfl rfl (fun _ => ?_) (fun e => absurd (show nI L.length ≤ nI j from w_le (by omega)) e)
        refine V_lv [1, 2, 3, 4, 5, 6, 7, 8, 9, 10, 11] (lv' := [(10, .ref h), (9, .int (nI r)), (8, .int (nI m)), (7, .int (nI (wEar L))), (6, .int (nI (wRib L))), (5, .int (nI (nRib L))), (4, .int (nI S.length)), (3, .int (nI L.length)), (2, .int t), (1, .ref A.1), (0, .ref b)]) rfl ?_
        exact ke
  refine V_lv [0, 1, 2, 3, 4, 5, 6, 7, 8, 9, 10, 11] (lv' := [(18, .int (1 : Int32)), (10, .ref h), (9, .int (nI r)), (8, .int (nI m)), (7, .int (nI (wEar L))), (6, .int (nI (wRib L))), (5, .int (nI (nRib L))), (4, .int (nI S.length)), (3, .int (nI L.length)), (2, .int t), (1, .ref A.1), (0, .ref b)]) rfl ?_
  exact loop 13 1 (by omega) (Nat.le_refl _)
