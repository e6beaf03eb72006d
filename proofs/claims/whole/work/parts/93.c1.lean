/-! ===== cases of the law ===== -/
theorem law_14 {K : KT} {g : G0} {b L o od t cells slots : Nat} {xs : Nat → Int32} {A : XA} {B : MdA} {x : XV} {m : MdV} {f : Nat → Int64} {fd : Nat → UInt64} (Lk : LK K g b L xs) (ht : 3 * t + 2 < L) (h : RX (30 * t) x m) (hr : cells + 100 ≤ 603072 ∧ slots + 10000 ≤ 7194730) (ke : LE K g b o od B t (cells + 100) (slots + 10000)) : V K cells slots (LW g A B x m o od f fd) (lvL A.1 B.1 b o od t) [] 1150 := by
  obtain ⟨C, hBA, hE, hN, hst, -, -, -, hL, h9⟩ := id Lk
  have hR9 : kR K = room_1 := C.2.2.2.2.2.2.1
  have hlt : ∀ i, i < 9 → i < kn K := fun i h => by rw [h9]; exact h
  obtain ⟨R, r, m1, hx, hm, hok, hout⟩ := Ag.wI (ag_previousMark h (xs (3 * t + 1))) (by decide +kernel) (by decide)
  refine V_aload_n C 4 1151 dL_law_1150 rfl rfl ?_
  refine V_arg Lk (t := t) (j := 1) 5 0 1157 (by omega) dL_law_1151 dL_law_1152 dL_law_1154 dL_law_1155 dL_law_1156 rfl rfl rfl rfl ?_
  refine V_aload_n C 2 1158 dL_law_1157 rfl rfl ?_
  refine V_callH C hBA hE hN lh_previousMark (pre := mdW g B m) (w0 := oW g A o od f fd x) (post := []) (as := [.ref A.1, .int (xs (3 * t + 1)), .ref o]) (rest := []) (w_previousMark hst hx hok) dL_law_1158 ⟨Nat.le_of_ble_eq_true rfl, Nat.le_of_ble_eq_true rfl⟩ rfl (by rw [List.append_nil]) rfl (Nat.le_of_ble_eq_true rfl) ⟨by show cells + 1 ≤ 603072; omega, by show slots + 6 ≤ 7194730; omega⟩ (fun rv w1 hP => ?_)
  obtain ⟨kv, f1, x1, rfl, rfl, hth, hval, hRX⟩ := hout _ _ _ _ _ _ _ hP
  refine V_eq (ws2 := LW g A B x1 m o od f1 fd) (by rw [List.append_nil]) ?_
  refine V_istore C 1163 [(6, .int kv), (5, .int (nI (3 * t))), (4, .ref od), (3, .ref o), (2, .ref B.1), (1, .ref A.1), (0, .ref b)] dL_law_1161 rfl (hlt 6 (by decide)) rfl ?_
  refine V_aload_n C 4 1164 dL_law_1163 rfl rfl ?_
  refine V_arg Lk (t := t) (j := 1) 6 1 1170 (by omega) dL_law_1164 dL_law_1165 dL_law_1167 dL_law_1168 dL_law_1169 rfl rfl rfl rfl ?_
  refine V_callS C hBA ml_L_220 (pre := []) (post := oW g A o od f1 fd x1) (w0 := mdW g B m) (w1 := mdW g B m1) (as := [.int (xs (3 * t + 1))]) (rest := []) (c_X4_previousMark (R := (r, m1)) hm) 0 1173 (LW g A B x1 m1 o od f1 fd) dL_law_1170 rfl ⟨Nat.le_of_ble_eq_true rfl, Nat.le_of_ble_eq_true rfl⟩ rfl rfl rfl rfl rfl rfl rfl (Nat.le_of_ble_eq_true rfl) ⟨by rw [hR9]; show cells + 1 ≤ 603072; omega, by rw [hR9]; show slots + 6 ≤ 7194730; omega⟩ ?_
  refine V_istore C 1175 [(7, .int r), (6, .int kv), (5, .int (nI (3 * t))), (4, .ref od), (3, .ref o), (2, .ref B.1), (1, .ref A.1), (0, .ref b)] dL_law_1173 rfl (hlt 7 (by decide)) rfl ?_
  refine V_aload_n C 5 1176 dL_law_1175 rfl rfl ?_
  refine V_callP C ml_L_175 (pre := []) (post := oW g A o od f1 fd x1) (w := mdW g B m1) (as := []) (rest := []) (c_X4_thrown (v := m1) (R := Md_thrown m1) rfl) 0 1179 dL_law_1176 rfl ⟨Nat.le_of_ble_eq_true rfl, Nat.le_of_ble_eq_true rfl⟩ rfl rfl rfl rfl rfl (Nat.le_of_ble_eq_true rfl) ⟨by rw [hR9]; show cells + 1 ≤ 603072; omega, by rw [hR9]; show slots + 6 ≤ 7194730; omega⟩ ?_
  refine V_iload C 1 1181 dL_law_1179 rfl rfl ?_
  refine V_icmp_eq C 1186 1184 dL_law_1181 rfl rfl (fun _ => ?_) (fun e => absurd hth e)
  refine V_iload C 1 1188 dL_law_1186 rfl rfl ?_
  have END : V K (cells + 1) (slots + 6) (LW g A B x1 m1 o od f1 fd) [(7, .int r), (6, .int kv), (5, .int (nI (3 * t))), (4, .ref od), (3, .ref o), (2, .ref B.1), (1, .ref A.1), (0, .ref b)] [] 1203 := by
    refine V_goto C 3101 dL_law_1203 rfl ?_
    refine V_lv [2, 3, 4, 5, 6, 7] rfl ?_
    exact V_widen (by omega) (by omega) (ke A x1 m1 f1 fd (hRX.mono (by omega)))
  refine V_if_ne C 1203 1191 dL_law_1188 rfl rfl (fun _ => END) (fun e => ?_)
  refine V_aload_n C 4 1192 dL_law_1191 rfl rfl ?_
  refine V_iconst C (0 : Int32) 1193 dL_law_1192 rfl rfl ?_
  refine V_lald C (f := f1) (n := 1) 5 1194 dL_law_1193 rfl rfl (by decide) ?_
  refine V_iload C 0 1196 dL_law_1194 rfl rfl ?_
  refine V_i2l C 1197 dL_law_1196 rfl ?_
  refine V_st (st2 := [.long r.toInt64, .long r.toInt64]) (by rw [show f1 (cl (0 : Int32)) = r.toInt64 from hval e] <;> rfl) ?_
  refine V_lcmpE C 1198 dL_law_1197 rfl ?_
  exact V_if_eq C 1203 1201 dL_law_1198 rfl rfl (fun _ => END) (fun e => absurd rfl e)
theorem law_15 {K : KT} {g : G0} {b L o od t cells slots : Nat} {xs : Nat → Int32} {A : XA} {B : MdA} {x : XV} {m : MdV} {f : Nat → Int64} {fd : Nat → UInt64} (Lk : LK K g b L xs) (ht : 3 * t + 2 < L) (h : RX (30 * t) x m) (hr : cells + 100 ≤ 603072 ∧ slots + 10000 ≤ 7194730) (ke : LE K g b o od B t (cells + 100) (slots + 10000)) : V K cells slots (LW g A B x m o od f fd) (lvL A.1 B.1 b o od t) [] 1206 := by
  obtain ⟨C, hBA, hE, hN, hst, -, -, -, hL, h9⟩ := id Lk
  have hR9 : kR K = room_1 := C.2.2.2.2.2.2.1
  have hlt : ∀ i, i < 9 → i < kn K := fun i h => by rw [h9]; exact h
  obtain ⟨R, r, m1, hx, hm, hok, hout⟩ := Ag.wI (ag_nearestMark h (xs (3 * t + 1))) (by decide +kernel) (by decide)
  refine V_aload_n C 4 1207 dL_law_1206 rfl rfl ?_
  refine V_arg Lk (t := t) (j := 1) 5 0 1213 (by omega) dL_law_1207 dL_law_1208 dL_law_1210 dL_law_1211 dL_law_1212 rfl rfl rfl rfl ?_
  refine V_aload_n C 2 1214 dL_law_1213 rfl rfl ?_
  refine V_callH C hBA hE hN lh_nearestMark (pre := mdW g B m) (w0 := oW g A o od f fd x) (post := []) (as := [.ref A.1, .int (xs (3 * t + 1)), .ref o]) (rest := []) (w_nearestMark hst hx hok) dL_law_1214 ⟨Nat.le_of_ble_eq_true rfl, Nat.le_of_ble_eq_true rfl⟩ rfl (by rw [List.append_nil]) rfl (Nat.le_of_ble_eq_true rfl) ⟨by show cells + 1 ≤ 603072; omega, by show slots + 6 ≤ 7194730; omega⟩ (fun rv w1 hP => ?_)
  obtain ⟨kv, f1, x1, rfl, rfl, hth, hval, hRX⟩ := hout _ _ _ _ _ _ _ hP
  refine V_eq (ws2 := LW g A B x1 m o od f1 fd) (by rw [List.append_nil]) ?_
  refine V_istore C 1219 [(6, .int kv), (5, .int (nI (3 * t))), (4, .ref od), (3, .ref o), (2, .ref B.1), (1, .ref A.1), (0, .ref b)] dL_law_1217 rfl (hlt 6 (by decide)) rfl ?_
  refine V_aload_n C 4 1220 dL_law_1219 rfl rfl ?_
  refine V_arg Lk (t := t) (j := 1) 6 1 1226 (by omega) dL_law_1220 dL_law_1221 dL_law_1223 dL_law_1224 dL_law_1225 rfl rfl rfl rfl ?_
  refine V_callS C hBA ml_L_223 (pre := []) (post := oW g A o od f1 fd x1) (w0 := mdW g B m) (w1 := mdW g B m1) (as := [.int (xs (3 * t + 1))]) (rest := []) (c_X4_nearestMark (R := (r, m1)) hm) 0 1229 (LW g A B x1 m1 o od f1 fd) dL_law_1226 rfl ⟨Nat.le_of_ble_eq_true rfl, Nat.le_of_ble_eq_true rfl⟩ rfl rfl rfl rfl rfl rfl rfl (Nat.le_of_ble_eq_true rfl) ⟨by rw [hR9]; show cells + 1 ≤ 603072; omega, by rw [hR9]; show slots + 6 ≤ 7194730; omega⟩ ?_
  refine V_istore C 1231 [(7, .int r), (6, .int kv), (5, .int (nI (3 * t))), (4, .ref od), (3, .ref o), (2, .ref B.1), (1, .ref A.1), (0, .ref b)] dL_law_1229 rfl (hlt 7 (by decide)) rfl ?_
  refine V_aload_n C 5 1232 dL_law_1231 rfl rfl ?_
  refine V_callP C ml_L_175 (pre := []) (post := oW g A o od f1 fd x1) (w := mdW g B m1) (as := []) (rest := []) (c_X4_thrown (v := m1) (R := Md_thrown m1) rfl) 0 1235 dL_law_1232 rfl ⟨Nat.le_of_ble_eq_true rfl, Nat.le_of_ble_eq_true rfl⟩ rfl rfl rfl rfl rfl (Nat.le_of_ble_eq_true rfl) ⟨by rw [hR9]; show cells + 1 ≤ 603072; omega, by rw [hR9]; show slots + 6 ≤ 7194730; omega⟩ ?_
  refine V_iload C 1 1237 dL_law_1235 rfl rfl ?_
  refine V_icmp_eq C 1242 1240 dL_law_1237 rfl rfl (fun _ => ?_) (fun e => absurd hth e)
  refine V_iload C 1 1244 dL_law_1242 rfl rfl ?_
  have END : V K (cells + 1) (slots + 6) (LW g A B x1 m1 o od f1 fd) [(7, .int r), (6, .int kv), (5, .int (nI (3 * t))), (4, .ref od), (3, .ref o), (2, .ref B.1), (1, .ref A.1), (0, .ref b)] [] 1259 := by
    refine V_goto C 3101 dL_law_1259 rfl ?_
    refine V_lv [2, 3, 4, 5, 6, 7] rfl ?_
    exact V_widen (by omega) (by omega) (ke A x1 m1 f1 fd (hRX.mono (by omega)))
  refine V_if_ne C 1259 1247 dL_law_1244 rfl rfl (fun _ => END) (fun e => ?_)
  refine V_aload_n C 4 1248 dL_law_1247 rfl rfl ?_
  refine V_iconst C (0 : Int32) 1249 dL_law_1248 rfl rfl ?_
  refine V_lald C (f := f1) (n := 1) 5 1250 dL_law_1249 rfl rfl (by decide) ?_
  refine V_iload C 0 1252 dL_law_1250 rfl rfl ?_
  refine V_i2l C 1253 dL_law_1252 rfl ?_
  refine V_st (st2 := [.long r.toInt64, .long r.toInt64]) (by rw [show f1 (cl (0 : Int32)) = r.toInt64 from hval e] <;> rfl) ?_
  refine V_lcmpE C 1254 dL_law_1253 rfl ?_
  exact V_if_eq C 1259 1257 dL_law_1254 rfl rfl (fun _ => END) (fun e => absurd rfl e)
theorem law_16 {K : KT} {g : G0} {b L o od t cells slots : Nat} {xs : Nat → Int32} {A : XA} {B : MdA} {x : XV} {m : MdV} {f : Nat → Int64} {fd : Nat → UInt64} (Lk : LK K g b L xs) (ht : 3 * t + 2 < L) (h : RX (30 * t) x m) (hr : cells + 100 ≤ 603072 ∧ slots + 10000 ≤ 7194730) (ke : LE K g b o od B t (cells + 100) (slots + 10000)) : V K cells slots (LW g A B x m o od f fd) (lvL A.1 B.1 b o od t) [] 1262 := by
  obtain ⟨C, hBA, hE, hN, hst, -, -, -, hL, h9⟩ := id Lk
  have hR9 : kR K = room_1 := C.2.2.2.2.2.2.1
  have hlt : ∀ i, i < 9 → i < kn K := fun i h => by rw [h9]; exact h
  obtain ⟨R, r, m1, hx, hm, hok, hout⟩ := Ag.wI (ag_chapterOf h (xs (3 * t + 1))) (by decide +kernel) (by decide)
  refine V_aload_n C 4 1263 dL_law_1262 rfl rfl ?_
  refine V_arg Lk (t := t) (j := 1) 5 0 1269 (by omega) dL_law_1263 dL_law_1264 dL_law_1266 dL_law_1267 dL_law_1268 rfl rfl rfl rfl ?_
  refine V_aload_n C 2 1270 dL_law_1269 rfl rfl ?_
  refine V_callH C hBA hE hN lh_chapterOf (pre := mdW g B m) (w0 := oW g A o od f fd x) (post := []) (as := [.ref A.1, .int (xs (3 * t + 1)), .ref o]) (rest := []) (w_chapterOf hst hx hok) dL_law_1270 ⟨Nat.le_of_ble_eq_true rfl, Nat.le_of_ble_eq_true rfl⟩ rfl (by rw [List.append_nil]) rfl (Nat.le_of_ble_eq_true rfl) ⟨by show cells + 1 ≤ 603072; omega, by show slots + 6 ≤ 7194730; omega⟩ (fun rv w1 hP => ?_)
  obtain ⟨kv, f1, x1, rfl, rfl, hth, hval, hRX⟩ := hout _ _ _ _ _ _ _ hP
  refine V_eq (ws2 := LW g A B x1 m o od f1 fd) (by rw [List.append_nil]) ?_
  refine V_istore C 1275 [(6, .int kv), (5, .int (nI (3 * t))), (4, .ref od), (3, .ref o), (2, .ref B.1), (1, .ref A.1), (0, .ref b)] dL_law_1273 rfl (hlt 6 (by decide)) rfl ?_
  refine V_aload_n C 4 1276 dL_law_1275 rfl rfl ?_
  refine V_arg Lk (t := t) (j := 1) 6 1 1282 (by omega) dL_law_1276 dL_law_1277 dL_law_1279 dL_law_1280 dL_law_1281 rfl rfl rfl rfl ?_
  refine V_callS C hBA ml_L_226 (pre := []) (post := oW g A o od f1 fd x1) (w0 := mdW g B m) (w1 := mdW g B m1) (as := [.int (xs (3 * t + 1))]) (rest := []) (c_X4_chapterOf (R := (r, m1)) hm) 0 1285 (LW g A B x1 m1 o od f1 fd) dL_law_1282 rfl ⟨Nat.le_of_ble_eq_true rfl, Nat.le_of_ble_eq_true rfl⟩ rfl rfl rfl rfl rfl rfl rfl (Nat.le_of_ble_eq_true rfl) ⟨by rw [hR9]; show cells + 1 ≤ 603072; omega, by rw [hR9]; show slots + 6 ≤ 7194730; omega⟩ ?_
  refine V_istore C 1287 [(7, .int r), (6, .int kv), (5, .int (nI (3 * t))), (4, .ref od), (3, .ref o), (2, .ref B.1), (1, .ref A.1), (0, .ref b)] dL_law_1285 rfl (hlt 7 (by decide)) rfl ?_
  refine V_aload_n C 5 1288 dL_law_1287 rfl rfl ?_
  refine V_callP C ml_L_175 (pre := []) (post := oW g A o od f1 fd x1) (w := mdW g B m1) (as := []) (rest := []) (c_X4_thrown (v := m1) (R := Md_thrown m1) rfl) 0 1291 dL_law_1288 rfl ⟨Nat.le_of_ble_eq_true rfl, Nat.le_of_ble_eq_true rfl⟩ rfl rfl rfl rfl rfl (Nat.le_of_ble_eq_true rfl) ⟨by rw [hR9]; show cells + 1 ≤ 603072; omega, by rw [hR9]; show slots + 6 ≤ 7194730; omega⟩ ?_
  refine V_iload C 1 1293 dL_law_1291 rfl rfl ?_
  refine V_icmp_eq C 1298 1296 dL_law_1293 rfl rfl (fun _ => ?_) (fun e => absurd hth e)
  refine V_iload C 1 1300 dL_law_1298 rfl rfl ?_
  have END : V K (cells + 1) (slots + 6) (LW g A B x1 m1 o od f1 fd) [(7, .int r), (6, .int kv), (5, .int (nI (3 * t))), (4, .ref od), (3, .ref o), (2, .ref B.1), (1, .ref A.1), (0, .ref b)] [] 1315 := by
    refine V_goto C 3101 dL_law_1315 rfl ?_
    refine V_lv [2, 3, 4, 5, 6, 7] rfl ?_
    exact V_widen (by omega) (by omega) (ke A x1 m1 f1 fd (hRX.mono (by omega)))
  refine V_if_ne C 1315 1303 dL_law_1300 rfl rfl (fun _ => END) (fun e => ?_)
  refine V_aload_n C 4 1304 dL_law_1303 rfl rfl ?_
  refine V_iconst C (0 : Int32) 1305 dL_law_1304 rfl rfl ?_
  refine V_lald C (f := f1) (n := 1) 5 1306 dL_law_1305 rfl rfl (by decide) ?_
  refine V_iload C 0 1308 dL_law_1306 rfl rfl ?_
  refine V_i2l C 1309 dL_law_1308 rfl ?_
  refine V_st (st2 := [.long r.toInt64, .long r.toInt64]) (by rw [show f1 (cl (0 : Int32)) = r.toInt64 from hval e] <;> rfl) ?_
  refine V_lcmpE C 1310 dL_law_1309 rfl ?_
  exact V_if_eq C 1315 1313 dL_law_1310 rfl rfl (fun _ => END) (fun e => absurd rfl e)
theorem law_17 {K : KT} {g : G0} {b L o od t cells slots : Nat} {xs : Nat → Int32} {A : XA} {B : MdA} {x : XV} {m : MdV} {f : Nat → Int64} {fd : Nat → UInt64} (Lk : LK K g b L xs) (ht : 3 * t + 2 < L) (h : RX (30 * t) x m) (hr : cells + 100 ≤ 603072 ∧ slots + 10000 ≤ 7194730) (ke : LE K g b o od B t (cells + 100) (slots + 10000)) : V K cells slots (LW g A B x m o od f fd) (lvL A.1 B.1 b o od t) [] 1318 := by
  obtain ⟨C, hBA, hE, hN, hst, -, -, -, hL, h9⟩ := id Lk
  have hR9 : kR K = room_1 := C.2.2.2.2.2.2.1
  have hlt : ∀ i, i < 9 → i < kn K := fun i h => by rw [h9]; exact h
  obtain ⟨R, r, m1, hx, hm, hok, hout⟩ := Ag.wI (ag_startChapter h (xs (3 * t + 1))) (by decide +kernel) (by decide)
  refine V_aload_n C 4 1319 dL_law_1318 rfl rfl ?_
  refine V_arg Lk (t := t) (j := 1) 5 0 1325 (by omega) dL_law_1319 dL_law_1320 dL_law_1322 dL_law_1323 dL_law_1324 rfl rfl rfl rfl ?_
  refine V_aload_n C 2 1326 dL_law_1325 rfl rfl ?_
  refine V_callH C hBA hE hN lh_startChapter (pre := mdW g B m) (w0 := oW g A o od f fd x) (post := []) (as := [.ref A.1, .int (xs (3 * t + 1)), .ref o]) (rest := []) (w_startChapter hst hx hok) dL_law_1326 ⟨Nat.le_of_ble_eq_true rfl, Nat.le_of_ble_eq_true rfl⟩ rfl (by rw [List.append_nil]) rfl (Nat.le_of_ble_eq_true rfl) ⟨by show cells + 1 ≤ 603072; omega, by show slots + 6 ≤ 7194730; omega⟩ (fun rv w1 hP => ?_)
  obtain ⟨kv, f1, x1, rfl, rfl, hth, hval, hRX⟩ := hout _ _ _ _ _ _ _ hP
  refine V_eq (ws2 := LW g A B x1 m o od f1 fd) (by rw [List.append_nil]) ?_
  refine V_istore C 1331 [(6, .int kv), (5, .int (nI (3 * t))), (4, .ref od), (3, .ref o), (2, .ref B.1), (1, .ref A.1), (0, .ref b)] dL_law_1329 rfl (hlt 6 (by decide)) rfl ?_
  refine V_aload_n C 4 1332 dL_law_1331 rfl rfl ?_
  refine V_arg Lk (t := t) (j := 1) 6 1 1338 (by omega) dL_law_1332 dL_law_1333 dL_law_1335 dL_law_1336 dL_law_1337 rfl rfl rfl rfl ?_
  refine V_callS C hBA ml_L_229 (pre := []) (post := oW g A o od f1 fd x1) (w0 := mdW g B m) (w1 := mdW g B m1) (as := [.int (xs (3 * t + 1))]) (rest := []) (c_X4_startChapter (R := (r, m1)) hm) 0 1341 (LW g A B x1 m1 o od f1 fd) dL_law_1338 rfl ⟨Nat.le_of_ble_eq_true rfl, Nat.le_of_ble_eq_true rfl⟩ rfl rfl rfl rfl rfl rfl rfl (Nat.le_of_ble_eq_true rfl) ⟨by rw [hR9]; show cells + 1 ≤ 603072; omega, by rw [hR9]; show slots + 6 ≤ 7194730; omega⟩ ?_
  refine V_istore C 1343 [(7, .int r), (6, .int kv), (5, .int (nI (3 * t))), (4, .ref od), (3, .ref o), (2, .ref B.1), (1, .ref A.1), (0, .ref b)] dL_law_1341 rfl (hlt 7 (by decide)) rfl ?_
  refine V_aload_n C 5 1344 dL_law_1343 rfl rfl ?_
  refine V_callP C ml_L_175 (pre := []) (post := oW g A o od f1 fd x1) (w := mdW g B m1) (as := []) (rest := []) (c_X4_thrown (v := m1) (R := Md_thrown m1) rfl) 0 1347 dL_law_1344 rfl ⟨Nat.le_of_ble_eq_true rfl, Nat.le_of_ble_eq_true rfl⟩ rfl rfl rfl rfl rfl (Nat.le_of_ble_eq_true rfl) ⟨by rw [hR9]; show cells + 1 ≤ 603072; omega, by rw [hR9]; show slots + 6 ≤ 7194730; omega⟩ ?_
  refine V_iload C 1 1349 dL_law_1347 rfl rfl ?_
  refine V_icmp_eq C 1354 1352 dL_law_1349 rfl rfl (fun _ => ?_) (fun e => absurd hth e)
  refine V_iload C 1 1356 dL_law_1354 rfl rfl ?_
  have END : V K (cells + 1) (slots + 6) (LW g A B x1 m1 o od f1 fd) [(7, .int r), (6, .int kv), (5, .int (nI (3 * t))), (4, .ref od), (3, .ref o), (2, .ref B.1), (1, .ref A.1), (0, .ref b)] [] 1371 := by
    refine V_goto C 3101 dL_law_1371 rfl ?_
    refine V_lv [2, 3, 4, 5, 6, 7] rfl ?_
    exact V_widen (by omega) (by omega) (ke A x1 m1 f1 fd (hRX.mono (by omega)))
  refine V_if_ne C 1371 1359 dL_law_1356 rfl rfl (fun _ => END) (fun e => ?_)
  refine V_aload_n C 4 1360 dL_law_1359 rfl rfl ?_
  refine V_iconst C (0 : Int32) 1361 dL_law_1360 rfl rfl ?_
  refine V_lald C (f := f1) (n := 1) 5 1362 dL_law_1361 rfl rfl (by decide) ?_
  refine V_iload C 0 1364 dL_law_1362 rfl rfl ?_
  refine V_i2l C 1365 dL_law_1364 rfl ?_
  refine V_st (st2 := [.long r.toInt64, .long r.toInt64]) (by rw [show f1 (cl (0 : Int32)) = r.toInt64 from hval e] <;> rfl) ?_
  refine V_lcmpE C 1366 dL_law_1365 rfl ?_
  exact V_if_eq C 1371 1369 dL_law_1366 rfl rfl (fun _ => END) (fun e => absurd rfl e)
theorem law_18 {K : KT} {g : G0} {b L o od t cells slots : Nat} {xs : Nat → Int32} {A : XA} {B : MdA} {x : XV} {m : MdV} {f : Nat → Int64} {fd : Nat → UInt64} (Lk : LK K g b L xs) (ht : 3 * t + 2 < L) (h : RX (30 * t) x m) (hr : cells + 100 ≤ 603072 ∧ slots + 10000 ≤ 7194730) (ke : LE K g b o od B t (cells + 100) (slots + 10000)) : V K cells slots (LW g A B x m o od f fd) (lvL A.1 B.1 b o od t) [] 1374 := by
  obtain ⟨C, hBA, hE, hN, hst, -, -, -, hL, h9⟩ := id Lk
  have hR9 : kR K = room_1 := C.2.2.2.2.2.2.1
  have hlt : ∀ i, i < 9 → i < kn K := fun i h => by rw [h9]; exact h
  obtain ⟨R, r, m1, hx, hm, hok, hout⟩ := Ag.wB (ag_voteToDissolve h (xs (3 * t + 1))) (by decide +kernel) (by decide)
  refine V_aload_n C 4 1375 dL_law_1374 rfl rfl ?_
  refine V_arg Lk (t := t) (j := 1) 5 0 1381 (by omega) dL_law_1375 dL_law_1376 dL_law_1378 dL_law_1379 dL_law_1380 rfl rfl rfl rfl ?_
  refine V_aload_n C 2 1382 dL_law_1381 rfl rfl ?_
  refine V_callH C hBA hE hN lh_voteToDissolve (pre := mdW g B m) (w0 := oW g A o od f fd x) (post := []) (as := [.ref A.1, .int (xs (3 * t + 1)), .ref o]) (rest := []) (w_voteToDissolve hst hx hok) dL_law_1382 ⟨Nat.le_of_ble_eq_true rfl, Nat.le_of_ble_eq_true rfl⟩ rfl (by rw [List.append_nil]) rfl (Nat.le_of_ble_eq_true rfl) ⟨by show cells + 1 ≤ 603072; omega, by show slots + 6 ≤ 7194730; omega⟩ (fun rv w1 hP => ?_)
  obtain ⟨kv, f1, x1, rfl, rfl, hth, hval, hRX⟩ := hout _ _ _ _ _ _ _ hP
  refine V_eq (ws2 := LW g A B x1 m o od f1 fd) (by rw [List.append_nil]) ?_
  refine V_istore C 1387 [(6, .int kv), (5, .int (nI (3 * t))), (4, .ref od), (3, .ref o), (2, .ref B.1), (1, .ref A.1), (0, .ref b)] dL_law_1385 rfl (hlt 6 (by decide)) rfl ?_
  refine V_aload_n C 4 1388 dL_law_1387 rfl rfl ?_
  refine V_arg Lk (t := t) (j := 1) 6 1 1394 (by omega) dL_law_1388 dL_law_1389 dL_law_1391 dL_law_1392 dL_law_1393 rfl rfl rfl rfl ?_
  refine V_callS C hBA ml_L_232 (pre := []) (post := oW g A o od f1 fd x1) (w0 := mdW g B m) (w1 := mdW g B m1) (as := [.int (xs (3 * t + 1))]) (rest := []) (c_X4_voteToDissolve (R := (r, m1)) hm) 0 1397 (LW g A B x1 m1 o od f1 fd) dL_law_1394 rfl ⟨Nat.le_of_ble_eq_true rfl, Nat.le_of_ble_eq_true rfl⟩ rfl rfl rfl rfl rfl rfl rfl (Nat.le_of_ble_eq_true rfl) ⟨by rw [hR9]; show cells + 1 ≤ 603072; omega, by rw [hR9]; show slots + 6 ≤ 7194730; omega⟩ ?_
  refine V_istore C 1399 [(7, .int r), (6, .int kv), (5, .int (nI (3 * t))), (4, .ref od), (3, .ref o), (2, .ref B.1), (1, .ref A.1), (0, .ref b)] dL_law_1397 rfl (hlt 7 (by decide)) rfl ?_
  refine V_aload_n C 5 1400 dL_law_1399 rfl rfl ?_
  refine V_callP C ml_L_175 (pre := []) (post := oW g A o od f1 fd x1) (w := mdW g B m1) (as := []) (rest := []) (c_X4_thrown (v := m1) (R := Md_thrown m1) rfl) 0 1403 dL_law_1400 rfl ⟨Nat.le_of_ble_eq_true rfl, Nat.le_of_ble_eq_true rfl⟩ rfl rfl rfl rfl rfl (Nat.le_of_ble_eq_true rfl) ⟨by rw [hR9]; show cells + 1 ≤ 603072; omega, by rw [hR9]; show slots + 6 ≤ 7194730; omega⟩ ?_
  refine V_iload C 1 1405 dL_law_1403 rfl rfl ?_
  refine V_icmp_eq C 1410 1408 dL_law_1405 rfl rfl (fun _ => ?_) (fun e => absurd hth e)
  refine V_iload C 1 1412 dL_law_1410 rfl rfl ?_
  have END : V K (cells + 1) (slots + 6) (LW g A B x1 m1 o od f1 fd) [(7, .int r), (6, .int kv), (5, .int (nI (3 * t))), (4, .ref od), (3, .ref o), (2, .ref B.1), (1, .ref A.1), (0, .ref b)] [] 1434 := by
    refine V_goto C 3101 dL_law_1434 rfl ?_
    refine V_lv [2, 3, 4, 5, 6, 7] rfl ?_
    exact V_widen (by omega) (by omega) (ke A x1 m1 f1 fd (hRX.mono (by omega)))
  refine V_if_ne C 1434 1415 dL_law_1412 rfl rfl (fun _ => END) (fun e => ?_)
  refine V_aload_n C 4 1416 dL_law_1415 rfl rfl ?_
  refine V_iconst C (0 : Int32) 1417 dL_law_1416 rfl rfl ?_
  refine V_lald C (f := f1) (n := 1) 5 1418 dL_law_1417 rfl rfl (by decide) ?_
  refine V_iload C 0 1420 dL_law_1418 rfl rfl ?_
  refine V_if_eq C 1427 1423 dL_law_1420 rfl rfl (fun e2 => ?_) (fun e2 => ?_)
  · refine V_lconst C (0 : Int64) 1428 dL_law_1427 rfl rfl ?_
    refine V_st (st2 := [.long (0 : Int64), .long (0 : Int64)]) (by rw [show f1 (cl (0 : Int32)) = (0 : Int64) from (hval e).trans (if_pos e2)] <;> rfl) ?_
    refine V_lcmpE C 1429 dL_law_1428 rfl ?_
    exact V_if_eq C 1434 1432 dL_law_1429 rfl rfl (fun _ => END) (fun e => absurd rfl e)
  · refine V_lconst C (1 : Int64) 1424 dL_law_1423 rfl rfl ?_
    refine V_goto C 1428 dL_law_1424 rfl ?_
    refine V_st (st2 := [.long (1 : Int64), .long (1 : Int64)]) (by rw [show f1 (cl (0 : Int32)) = (1 : Int64) from (hval e).trans (if_neg e2)] <;> rfl) ?_
    refine V_lcmpE C 1429 dL_law_1428 rfl ?_
    exact V_if_eq C 1434 1432 dL_law_1429 rfl rfl (fun _ => END) (fun e => absurd rfl e)
theorem law_19 {K : KT} {g : G0} {b L o od t cells slots : Nat} {xs : Nat → Int32} {A : XA} {B : MdA} {x : XV} {m : MdV} {f : Nat → Int64} {fd : Nat → UInt64} (Lk : LK K g b L xs) (ht : 3 * t + 2 < L) (h : RX (30 * t) x m) (hr : cells + 100 ≤ 603072 ∧ slots + 10000 ≤ 7194730) (ke : LE K g b o od B t (cells + 100) (slots + 10000)) : V K cells slots (LW g A B x m o od f fd) (lvL A.1 B.1 b o od t) [] 1437 := by
  obtain ⟨C, hBA, hE, hN, hst, -, -, -, hL, h9⟩ := id Lk
  have hR9 : kR K = room_1 := C.2.2.2.2.2.2.1
  have hlt : ∀ i, i < 9 → i < kn K := fun i h => by rw [h9]; exact h
  obtain ⟨R, r, m1, hx, hm, hok, hout⟩ := Ag.wI (ag_firstPage h (xs (3 * t + 1))) (by decide +kernel) (by decide)
  refine V_aload_n C 4 1438 dL_law_1437 rfl rfl ?_
  refine V_arg Lk (t := t) (j := 1) 5 0 1444 (by omega) dL_law_1438 dL_law_1439 dL_law_1441 dL_law_1442 dL_law_1443 rfl rfl rfl rfl ?_
  refine V_aload_n C 2 1445 dL_law_1444 rfl rfl ?_
  refine V_callH C hBA hE hN lh_firstPage (pre := mdW g B m) (w0 := oW g A o od f fd x) (post := []) (as := [.ref A.1, .int (xs (3 * t + 1)), .ref o]) (rest := []) (w_firstPage hst hx hok) dL_law_1445 ⟨Nat.le_of_ble_eq_true rfl, Nat.le_of_ble_eq_true rfl⟩ rfl (by rw [List.append_nil]) rfl (Nat.le_of_ble_eq_true rfl) ⟨by show cells + 1 ≤ 603072; omega, by show slots + 6 ≤ 7194730; omega⟩ (fun rv w1 hP => ?_)
  obtain ⟨kv, f1, x1, rfl, rfl, hth, hval, hRX⟩ := hout _ _ _ _ _ _ _ hP
  refine V_eq (ws2 := LW g A B x1 m o od f1 fd) (by rw [List.append_nil]) ?_
  refine V_istore C 1450 [(6, .int kv), (5, .int (nI (3 * t))), (4, .ref od), (3, .ref o), (2, .ref B.1), (1, .ref A.1), (0, .ref b)] dL_law_1448 rfl (hlt 6 (by decide)) rfl ?_
  refine V_aload_n C 4 1451 dL_law_1450 rfl rfl ?_
  refine V_arg Lk (t := t) (j := 1) 6 1 1457 (by omega) dL_law_1451 dL_law_1452 dL_law_1454 dL_law_1455 dL_law_1456 rfl rfl rfl rfl ?_
  refine V_callS C hBA ml_L_235 (pre := []) (post := oW g A o od f1 fd x1) (w0 := mdW g B m) (w1 := mdW g B m1) (as := [.int (xs (3 * t + 1))]) (rest := []) (c_X4_firstPage (R := (r, m1)) hm) 0 1460 (LW g A B x1 m1 o od f1 fd) dL_law_1457 rfl ⟨Nat.le_of_ble_eq_true rfl, Nat.le_of_ble_eq_true rfl⟩ rfl rfl rfl rfl rfl rfl rfl (Nat.le_of_ble_eq_true rfl) ⟨by rw [hR9]; show cells + 1 ≤ 603072; omega, by rw [hR9]; show slots + 6 ≤ 7194730; omega⟩ ?_
  refine V_istore C 1462 [(7, .int r), (6, .int kv), (5, .int (nI (3 * t))), (4, .ref od), (3, .ref o), (2, .ref B.1), (1, .ref A.1), (0, .ref b)] dL_law_1460 rfl (hlt 7 (by decide)) rfl ?_
  refine V_aload_n C 5 1463 dL_law_1462 rfl rfl ?_
  refine V_callP C ml_L_175 (pre := []) (post := oW g A o od f1 fd x1) (w := mdW g B m1) (as := []) (rest := []) (c_X4_thrown (v := m1) (R := Md_thrown m1) rfl) 0 1466 dL_law_1463 rfl ⟨Nat.le_of_ble_eq_true rfl, Nat.le_of_ble_eq_true rfl⟩ rfl rfl rfl rfl rfl (Nat.le_of_ble_eq_true rfl) ⟨by rw [hR9]; show cells + 1 ≤ 603072; omega, by rw [hR9]; show slots + 6 ≤ 7194730; omega⟩ ?_
  refine V_iload C 1 1468 dL_law_1466 rfl rfl ?_
  refine V_icmp_eq C 1473 1471 dL_law_1468 rfl rfl (fun _ => ?_) (fun e => absurd hth e)
  refine V_iload C 1 1475 dL_law_1473 rfl rfl ?_
  have END : V K (cells + 1) (slots + 6) (LW g A B x1 m1 o od f1 fd) [(7, .int r), (6, .int kv), (5, .int (nI (3 * t))), (4, .ref od), (3, .ref o), (2, .ref B.1), (1, .ref A.1), (0, .ref b)] [] 1490 := by
    refine V_goto C 3101 dL_law_1490 rfl ?_
    refine V_lv [2, 3, 4, 5, 6, 7] rfl ?_
    exact V_widen (by omega) (by omega) (ke A x1 m1 f1 fd (hRX.mono (by omega)))
  refine V_if_ne C 1490 1478 dL_law_1475 rfl rfl (fun _ => END) (fun e => ?_)
  refine V_aload_n C 4 1479 dL_law_1478 rfl rfl ?_
  refine V_iconst C (0 : Int32) 1480 dL_law_1479 rfl rfl ?_
  refine V_lald C (f := f1) (n := 1) 5 1481 dL_law_1480 rfl rfl (by decide) ?_
  refine V_iload C 0 1483 dL_law_1481 rfl rfl ?_
  refine V_i2l C 1484 dL_law_1483 rfl ?_
  refine V_st (st2 := [.long r.toInt64, .long r.toInt64]) (by rw [show f1 (cl (0 : Int32)) = r.toInt64 from hval e] <;> rfl) ?_
  refine V_lcmpE C 1485 dL_law_1484 rfl ?_
  exact V_if_eq C 1490 1488 dL_law_1485 rfl rfl (fun _ => END) (fun e => absurd rfl e)
theorem law_20 {K : KT} {g : G0} {b L o od t cells slots : Nat} {xs : Nat → Int32} {A : XA} {B : MdA} {x : XV} {m : MdV} {f : Nat → Int64} {fd : Nat → UInt64} (Lk : LK K g b L xs) (ht : 3 * t + 2 < L) (h : RX (30 * t) x m) (hr : cells + 100 ≤ 603072 ∧ slots + 10000 ≤ 7194730) (ke : LE K g b o od B t (cells + 100) (slots + 10000)) : V K cells slots (LW g A B x m o od f fd) (lvL A.1 B.1 b o od t) [] 1493 := by
  obtain ⟨C, hBA, hE, hN, hst, -, -, -, hL, h9⟩ := id Lk
  have hR9 : kR K = room_1 := C.2.2.2.2.2.2.1
  have hlt : ∀ i, i < 9 → i < kn K := fun i h => by rw [h9]; exact h
  obtain ⟨R, r, m1, hx, hm, hok, hout⟩ := Ag.wI (ag_lastPage h (xs (3 * t + 1))) (by decide +kernel) (by decide)
  refine V_aload_n C 4 1494 dL_law_1493 rfl rfl ?_
  refine V_arg Lk (t := t) (j := 1) 5 0 1500 (by omega) dL_law_1494 dL_law_1495 dL_law_1497 dL_law_1498 dL_law_1499 rfl rfl rfl rfl ?_
  refine V_aload_n C 2 1501 dL_law_1500 rfl rfl ?_
  refine V_callH C hBA hE hN lh_lastPage (pre := mdW g B m) (w0 := oW g A o od f fd x) (post := []) (as := [.ref A.1, .int (xs (3 * t + 1)), .ref o]) (rest := []) (w_lastPage hst hx hok) dL_law_1501 ⟨Nat.le_of_ble_eq_true rfl, Nat.le_of_ble_eq_true rfl⟩ rfl (by rw [List.append_nil]) rfl (Nat.le_of_ble_eq_true rfl) ⟨by show cells + 1 ≤ 603072; omega, by show slots + 6 ≤ 7194730; omega⟩ (fun rv w1 hP => ?_)
  obtain ⟨kv, f1, x1, rfl, rfl, hth, hval, hRX⟩ := hout _ _ _ _ _ _ _ hP
  refine V_eq (ws2 := LW g A B x1 m o od f1 fd) (by rw [List.append_nil]) ?_
  refine V_istore C 1506 [(6, .int kv), (5, .int (nI (3 * t))), (4, .ref od), (3, .ref o), (2, .ref B.1), (1, .ref A.1), (0, .ref b)] dL_law_1504 rfl (hlt 6 (by decide)) rfl ?_
  refine V_aload_n C 4 1507 dL_law_1506 rfl rfl ?_
  refine V_arg Lk (t := t) (j := 1) 6 1 1513 (by omega) dL_law_1507 dL_law_1508 dL_law_1510 dL_law_1511 dL_law_1512 rfl rfl rfl rfl ?_
  refine V_callS C hBA ml_L_238 (pre := []) (post := oW g A o od f1 fd x1) (w0 := mdW g B m) (w1 := mdW g B m1) (as := [.int (xs (3 * t + 1))]) (rest := []) (c_X4_lastPage (R := (r, m1)) hm) 0 1516 (LW g A B x1 m1 o od f1 fd) dL_law_1513 rfl ⟨Nat.le_of_ble_eq_true rfl, Nat.le_of_ble_eq_true rfl⟩ rfl rfl rfl rfl rfl rfl rfl (Nat.le_of_ble_eq_true rfl) ⟨by rw [hR9]; show cells + 1 ≤ 603072; omega, by rw [hR9]; show slots + 6 ≤ 7194730; omega⟩ ?_
  refine V_istore C 1518 [(7, .int r), (6, .int kv), (5, .int (nI (3 * t))), (4, .ref od), (3, .ref o), (2, .ref B.1), (1, .ref A.1), (0, .ref b)] dL_law_1516 rfl (hlt 7 (by decide)) rfl ?_
  refine V_aload_n C 5 1519 dL_law_1518 rfl rfl ?_
  refine V_callP C ml_L_175 (pre := []) (post := oW g A o od f1 fd x1) (w := mdW g B m1) (as := []) (rest := []) (c_X4_thrown (v := m1) (R := Md_thrown m1) rfl) 0 1522 dL_law_1519 rfl ⟨Nat.le_of_ble_eq_true rfl, Nat.le_of_ble_eq_true rfl⟩ rfl rfl rfl rfl rfl (Nat.le_of_ble_eq_true rfl) ⟨by rw [hR9]; show cells + 1 ≤ 603072; omega, by rw [hR9]; show slots + 6 ≤ 7194730; omega⟩ ?_
  refine V_iload C 1 1524 dL_law_1522 rfl rfl ?_
  refine V_icmp_eq C 1529 1527 dL_law_1524 rfl rfl (fun _ => ?_) (fun e => absurd hth e)
  refine V_iload C 1 1531 dL_law_1529 rfl rfl ?_
  have END : V K (cells + 1) (slots + 6) (LW g A B x1 m1 o od f1 fd) [(7, .int r), (6, .int kv), (5, .int (nI (3 * t))), (4, .ref od), (3, .ref o), (2, .ref B.1), (1, .ref A.1), (0, .ref b)] [] 1546 := by
    refine V_goto C 3101 dL_law_1546 rfl ?_
    refine V_lv [2, 3, 4, 5, 6, 7] rfl ?_
    exact V_widen (by omega) (by omega) (ke A x1 m1 f1 fd (hRX.mono (by omega)))
  refine V_if_ne C 1546 1534 dL_law_1531 rfl rfl (fun _ => END) (fun e => ?_)
  refine V_aload_n C 4 1535 dL_law_1534 rfl rfl ?_
  refine V_iconst C (0 : Int32) 1536 dL_law_1535 rfl rfl ?_
  refine V_lald C (f := f1) (n := 1) 5 1537 dL_law_1536 rfl rfl (by decide) ?_
  refine V_iload C 0 1539 dL_law_1537 rfl rfl ?_
  refine V_i2l C 1540 dL_law_1539 rfl ?_
  refine V_st (st2 := [.long r.toInt64, .long r.toInt64]) (by rw [show f1 (cl (0 : Int32)) = r.toInt64 from hval e] <;> rfl) ?_
  refine V_lcmpE C 1541 dL_law_1540 rfl ?_
  exact V_if_eq C 1546 1544 dL_law_1541 rfl rfl (fun _ => END) (fun e => absurd rfl e)
theorem law_21 {K : KT} {g : G0} {b L o od t cells slots : Nat} {xs : Nat → Int32} {A : XA} {B : MdA} {x : XV} {m : MdV} {f : Nat → Int64} {fd : Nat → UInt64} (Lk : LK K g b L xs) (ht : 3 * t + 2 < L) (h : RX (30 * t) x m) (hr : cells + 100 ≤ 603072 ∧ slots + 10000 ≤ 7194730) (ke : LE K g b o od B t (cells + 100) (slots + 10000)) : V K cells slots (LW g A B x m o od f fd) (lvL A.1 B.1 b o od t) [] 1549 := by
  obtain ⟨C, hBA, hE, hN, hst, -, -, -, hL, h9⟩ := id Lk
  have hR9 : kR K = room_1 := C.2.2.2.2.2.2.1
  have hlt : ∀ i, i < 9 → i < kn K := fun i h => by rw [h9]; exact h
  obtain ⟨R, r, m1, hx, hm, hok, hout⟩ := Ag.wI (ag_heldPages h (xs (3 * t + 1))) (by decide +kernel) (by decide)
  refine V_aload_n C 4 1550 dL_law_1549 rfl rfl ?_
  refine V_arg Lk (t := t) (j := 1) 5 0 1556 (by omega) dL_law_1550 dL_law_1551 dL_law_1553 dL_law_1554 dL_law_1555 rfl rfl rfl rfl ?_
  refine V_aload_n C 2 1557 dL_law_1556 rfl rfl ?_
  refine V_callH C hBA hE hN lh_heldPages (pre := mdW g B m) (w0 := oW g A o od f fd x) (post := []) (as := [.ref A.1, .int (xs (3 * t + 1)), .ref o]) (rest := []) (w_heldPages hst hx hok) dL_law_1557 ⟨Nat.le_of_ble_eq_true rfl, Nat.le_of_ble_eq_true rfl⟩ rfl (by rw [List.append_nil]) rfl (Nat.le_of_ble_eq_true rfl) ⟨by show cells + 1 ≤ 603072; omega, by show slots + 6 ≤ 7194730; omega⟩ (fun rv w1 hP => ?_)
  obtain ⟨kv, f1, x1, rfl, rfl, hth, hval, hRX⟩ := hout _ _ _ _ _ _ _ hP
  refine V_eq (ws2 := LW g A B x1 m o od f1 fd) (by rw [List.append_nil]) ?_
  refine V_istore C 1562 [(6, .int kv), (5, .int (nI (3 * t))), (4, .ref od), (3, .ref o), (2, .ref B.1), (1, .ref A.1), (0, .ref b)] dL_law_1560 rfl (hlt 6 (by decide)) rfl ?_
  refine V_aload_n C 4 1563 dL_law_1562 rfl rfl ?_
  refine V_arg Lk (t := t) (j := 1) 6 1 1569 (by omega) dL_law_1563 dL_law_1564 dL_law_1566 dL_law_1567 dL_law_1568 rfl rfl rfl rfl ?_
  refine V_callS C hBA ml_L_241 (pre := []) (post := oW g A o od f1 fd x1) (w0 := mdW g B m) (w1 := mdW g B m1) (as := [.int (xs (3 * t + 1))]) (rest := []) (c_X4_heldPages (R := (r, m1)) hm) 0 1572 (LW g A B x1 m1 o od f1 fd) dL_law_1569 rfl ⟨Nat.le_of_ble_eq_true rfl, Nat.le_of_ble_eq_true rfl⟩ rfl rfl rfl rfl rfl rfl rfl (Nat.le_of_ble_eq_true rfl) ⟨by rw [hR9]; show cells + 1 ≤ 603072; omega, by rw [hR9]; show slots + 6 ≤ 7194730; omega⟩ ?_
  refine V_istore C 1574 [(7, .int r), (6, .int kv), (5, .int (nI (3 * t))), (4, .ref od), (3, .ref o), (2, .ref B.1), (1, .ref A.1), (0, .ref b)] dL_law_1572 rfl (hlt 7 (by decide)) rfl ?_
  refine V_aload_n C 5 1575 dL_law_1574 rfl rfl ?_
  refine V_callP C ml_L_175 (pre := []) (post := oW g A o od f1 fd x1) (w := mdW g B m1) (as := []) (rest := []) (c_X4_thrown (v := m1) (R := Md_thrown m1) rfl) 0 1578 dL_law_1575 rfl ⟨Nat.le_of_ble_eq_true rfl, Nat.le_of_ble_eq_true rfl⟩ rfl rfl rfl rfl rfl (Nat.le_of_ble_eq_true rfl) ⟨by rw [hR9]; show cells + 1 ≤ 603072; omega, by rw [hR9]; show slots + 6 ≤ 7194730; omega⟩ ?_
  refine V_iload C 1 1580 dL_law_1578 rfl rfl ?_
  refine V_icmp_eq C 1585 1583 dL_law_1580 rfl rfl (fun _ => ?_) (fun e => absurd hth e)
  refine V_iload C 1 1587 dL_law_1585 rfl rfl ?_
  have END : V K (cells + 1) (slots + 6) (LW g A B x1 m1 o od f1 fd) [(7, .int r), (6, .int kv), (5, .int (nI (3 * t))), (4, .ref od), (3, .ref o), (2, .ref B.1), (1, .ref A.1), (0, .ref b)] [] 1602 := by
    refine V_goto C 3101 dL_law_1602 rfl ?_
    refine V_lv [2, 3, 4, 5, 6, 7] rfl ?_
    exact V_widen (by omega) (by omega) (ke A x1 m1 f1 fd (hRX.mono (by omega)))
  refine V_if_ne C 1602 1590 dL_law_1587 rfl rfl (fun _ => END) (fun e => ?_)
  refine V_aload_n C 4 1591 dL_law_1590 rfl rfl ?_
  refine V_iconst C (0 : Int32) 1592 dL_law_1591 rfl rfl ?_
  refine V_lald C (f := f1) (n := 1) 5 1593 dL_law_1592 rfl rfl (by decide) ?_
  refine V_iload C 0 1595 dL_law_1593 rfl rfl ?_
  refine V_i2l C 1596 dL_law_1595 rfl ?_
  refine V_st (st2 := [.long r.toInt64, .long r.toInt64]) (by rw [show f1 (cl (0 : Int32)) = r.toInt64 from hval e] <;> rfl) ?_
  refine V_lcmpE C 1597 dL_law_1596 rfl ?_
  exact V_if_eq C 1602 1600 dL_law_1597 rfl rfl (fun _ => END) (fun e => absurd rfl e)
theorem law_22 {K : KT} {g : G0} {b L o od t cells slots : Nat} {xs : Nat → Int32} {A : XA} {B : MdA} {x : XV} {m : MdV} {f : Nat → Int64} {fd : Nat → UInt64} (Lk : LK K g b L xs) (ht : 3 * t + 2 < L) (h : RX (30 * t) x m) (hr : cells + 100 ≤ 603072 ∧ slots + 10000 ≤ 7194730) (ke : LE K g b o od B t (cells + 100) (slots + 10000)) : V K cells slots (LW g A B x m o od f fd) (lvL A.1 B.1 b o od t) [] 1605 := by
  obtain ⟨C, hBA, hE, hN, hst, -, -, -, hL, h9⟩ := id Lk
  have hR9 : kR K = room_1 := C.2.2.2.2.2.2.1
  have hlt : ∀ i, i < 9 → i < kn K := fun i h => by rw [h9]; exact h
  obtain ⟨R, r, m1, hx, hm, hok, hout⟩ := Ag.wI (ag_heldPagesByMarks h (xs (3 * t + 1))) (by decide +kernel) (by decide)
  refine V_aload_n C 4 1606 dL_law_1605 rfl rfl ?_
  refine V_arg Lk (t := t) (j := 1) 5 0 1612 (by omega) dL_law_1606 dL_law_1607 dL_law_1609 dL_law_1610 dL_law_1611 rfl rfl rfl rfl ?_
  refine V_aload_n C 2 1613 dL_law_1612 rfl rfl ?_
  refine V_callH C hBA hE hN lh_heldPagesByMarks (pre := mdW g B m) (w0 := oW g A o od f fd x) (post := []) (as := [.ref A.1, .int (xs (3 * t + 1)), .ref o]) (rest := []) (w_heldPagesByMarks hst hx hok) dL_law_1613 ⟨Nat.le_of_ble_eq_true rfl, Nat.le_of_ble_eq_true rfl⟩ rfl (by rw [List.append_nil]) rfl (Nat.le_of_ble_eq_true rfl) ⟨by show cells + 1 ≤ 603072; omega, by show slots + 6 ≤ 7194730; omega⟩ (fun rv w1 hP => ?_)
  obtain ⟨kv, f1, x1, rfl, rfl, hth, hval, hRX⟩ := hout _ _ _ _ _ _ _ hP
  refine V_eq (ws2 := LW g A B x1 m o od f1 fd) (by rw [List.append_nil]) ?_
  refine V_istore C 1618 [(6, .int kv), (5, .int (nI (3 * t))), (4, .ref od), (3, .ref o), (2, .ref B.1), (1, .ref A.1), (0, .ref b)] dL_law_1616 rfl (hlt 6 (by decide)) rfl ?_
  refine V_aload_n C 4 1619 dL_law_1618 rfl rfl ?_
  refine V_arg Lk (t := t) (j := 1) 6 1 1625 (by omega) dL_law_1619 dL_law_1620 dL_law_1622 dL_law_1623 dL_law_1624 rfl rfl rfl rfl ?_
  refine V_callS C hBA ml_L_244 (pre := []) (post := oW g A o od f1 fd x1) (w0 := mdW g B m) (w1 := mdW g B m1) (as := [.int (xs (3 * t + 1))]) (rest := []) (c_X4_heldPagesByMarks (R := (r, m1)) hm) 0 1628 (LW g A B x1 m1 o od f1 fd) dL_law_1625 rfl ⟨Nat.le_of_ble_eq_true rfl, Nat.le_of_ble_eq_true rfl⟩ rfl rfl rfl rfl rfl rfl rfl (Nat.le_of_ble_eq_true rfl) ⟨by rw [hR9]; show cells + 1 ≤ 603072; omega, by rw [hR9]; show slots + 6 ≤ 7194730; omega⟩ ?_
  refine V_istore C 1630 [(7, .int r), (6, .int kv), (5, .int (nI (3 * t))), (4, .ref od), (3, .ref o), (2, .ref B.1), (1, .ref A.1), (0, .ref b)] dL_law_1628 rfl (hlt 7 (by decide)) rfl ?_
  refine V_aload_n C 5 1631 dL_law_1630 rfl rfl ?_
  refine V_callP C ml_L_175 (pre := []) (post := oW g A o od f1 fd x1) (w := mdW g B m1) (as := []) (rest := []) (c_X4_thrown (v := m1) (R := Md_thrown m1) rfl) 0 1634 dL_law_1631 rfl ⟨Nat.le_of_ble_eq_true rfl, Nat.le_of_ble_eq_true rfl⟩ rfl rfl rfl rfl rfl (Nat.le_of_ble_eq_true rfl) ⟨by rw [hR9]; show cells + 1 ≤ 603072; omega, by rw [hR9]; show slots + 6 ≤ 7194730; omega⟩ ?_
  refine V_iload C 1 1636 dL_law_1634 rfl rfl ?_
  refine V_icmp_eq C 1641 1639 dL_law_1636 rfl rfl (fun _ => ?_) (fun e => absurd hth e)
  refine V_iload C 1 1643 dL_law_1641 rfl rfl ?_
  have END : V K (cells + 1) (slots + 6) (LW g A B x1 m1 o od f1 fd) [(7, .int r), (6, .int kv), (5, .int (nI (3 * t))), (4, .ref od), (3, .ref o), (2, .ref B.1), (1, .ref A.1), (0, .ref b)] [] 1658 := by
    refine V_goto C 3101 dL_law_1658 rfl ?_
    refine V_lv [2, 3, 4, 5, 6, 7] rfl ?_
    exact V_widen (by omega) (by omega) (ke A x1 m1 f1 fd (hRX.mono (by omega)))
  refine V_if_ne C 1658 1646 dL_law_1643 rfl rfl (fun _ => END) (fun e => ?_)
  refine V_aload_n C 4 1647 dL_law_1646 rfl rfl ?_
  refine V_iconst C (0 : Int32) 1648 dL_law_1647 rfl rfl ?_
  refine V_lald C (f := f1) (n := 1) 5 1649 dL_law_1648 rfl rfl (by decide) ?_
  refine V_iload C 0 1651 dL_law_1649 rfl rfl ?_
  refine V_i2l C 1652 dL_law_1651 rfl ?_
  refine V_st (st2 := [.long r.toInt64, .long r.toInt64]) (by rw [show f1 (cl (0 : Int32)) = r.toInt64 from hval e] <;> rfl) ?_
  refine V_lcmpE C 1653 dL_law_1652 rfl ?_
  exact V_if_eq C 1658 1656 dL_law_1653 rfl rfl (fun _ => END) (fun e => absurd rfl e)
theorem law_23 {K : KT} {g : G0} {b L o od t cells slots : Nat} {xs : Nat → Int32} {A : XA} {B : MdA} {x : XV} {m : MdV} {f : Nat → Int64} {fd : Nat → UInt64} (Lk : LK K g b L xs) (ht : 3 * t + 2 < L) (h : RX (30 * t) x m) (hr : cells + 100 ≤ 603072 ∧ slots + 10000 ≤ 7194730) (ke : LE K g b o od B t (cells + 100) (slots + 10000)) : V K cells slots (LW g A B x m o od f fd) (lvL A.1 B.1 b o od t) [] 1661 := by
  obtain ⟨C, hBA, hE, hN, hst, -, -, -, hL, h9⟩ := id Lk
  have hR9 : kR K = room_1 := C.2.2.2.2.2.2.1
  have hlt : ∀ i, i < 9 → i < kn K := fun i h => by rw [h9]; exact h
  obtain ⟨R, r, m1, hx, hm, hok, hout⟩ := Ag.wI (ag_chapterWeight h (xs (3 * t + 1))) (by decide +kernel) (by decide)
  refine V_aload_n C 4 1662 dL_law_1661 rfl rfl ?_
  refine V_arg Lk (t := t) (j := 1) 5 0 1668 (by omega) dL_law_1662 dL_law_1663 dL_law_1665 dL_law_1666 dL_law_1667 rfl rfl rfl rfl ?_
  refine V_aload_n C 2 1669 dL_law_1668 rfl rfl ?_
  refine V_callH C hBA hE hN lh_chapterWeight (pre := mdW g B m) (w0 := oW g A o od f fd x) (post := []) (as := [.ref A.1, .int (xs (3 * t + 1)), .ref o]) (rest := []) (w_chapterWeight hst hx hok) dL_law_1669 ⟨Nat.le_of_ble_eq_true rfl, Nat.le_of_ble_eq_true rfl⟩ rfl (by rw [List.append_nil]) rfl (Nat.le_of_ble_eq_true rfl) ⟨by show cells + 1 ≤ 603072; omega, by show slots + 6 ≤ 7194730; omega⟩ (fun rv w1 hP => ?_)
  obtain ⟨kv, f1, x1, rfl, rfl, hth, hval, hRX⟩ := hout _ _ _ _ _ _ _ hP
  refine V_eq (ws2 := LW g A B x1 m o od f1 fd) (by rw [List.append_nil]) ?_
  refine V_istore C 1674 [(6, .int kv), (5, .int (nI (3 * t))), (4, .ref od), (3, .ref o), (2, .ref B.1), (1, .ref A.1), (0, .ref b)] dL_law_1672 rfl (hlt 6 (by decide)) rfl ?_
  refine V_aload_n C 4 1675 dL_law_1674 rfl rfl ?_
  refine V_arg Lk (t := t) (j := 1) 6 1 1681 (by omega) dL_law_1675 dL_law_1676 dL_law_1678 dL_law_1679 dL_law_1680 rfl rfl rfl rfl ?_
  refine V_callS C hBA ml_L_247 (pre := []) (post := oW g A o od f1 fd x1) (w0 := mdW g B m) (w1 := mdW g B m1) (as := [.int (xs (3 * t + 1))]) (rest := []) (c_X4_chapterWeight (R := (r, m1)) hm) 0 1684 (LW g A B x1 m1 o od f1 fd) dL_law_1681 rfl ⟨Nat.le_of_ble_eq_true rfl, Nat.le_of_ble_eq_true rfl⟩ rfl rfl rfl rfl rfl rfl rfl (Nat.le_of_ble_eq_true rfl) ⟨by rw [hR9]; show cells + 1 ≤ 603072; omega, by rw [hR9]; show slots + 6 ≤ 7194730; omega⟩ ?_
  refine V_istore C 1686 [(7, .int r), (6, .int kv), (5, .int (nI (3 * t))), (4, .ref od), (3, .ref o), (2, .ref B.1), (1, .ref A.1), (0, .ref b)] dL_law_1684 rfl (hlt 7 (by decide)) rfl ?_
  refine V_aload_n C 5 1687 dL_law_1686 rfl rfl ?_
  refine V_callP C ml_L_175 (pre := []) (post := oW g A o od f1 fd x1) (w := mdW g B m1) (as := []) (rest := []) (c_X4_thrown (v := m1) (R := Md_thrown m1) rfl) 0 1690 dL_law_1687 rfl ⟨Nat.le_of_ble_eq_true rfl, Nat.le_of_ble_eq_true rfl⟩ rfl rfl rfl rfl rfl (Nat.le_of_ble_eq_true rfl) ⟨by rw [hR9]; show cells + 1 ≤ 603072; omega, by rw [hR9]; show slots + 6 ≤ 7194730; omega⟩ ?_
  refine V_iload C 1 1692 dL_law_1690 rfl rfl ?_
  refine V_icmp_eq C 1697 1695 dL_law_1692 rfl rfl (fun _ => ?_) (fun e => absurd hth e)
  refine V_iload C 1 1699 dL_law_1697 rfl rfl ?_
  have END : V K (cells + 1) (slots + 6) (LW g A B x1 m1 o od f1 fd) [(7, .int r), (6, .int kv), (5, .int (nI (3 * t))), (4, .ref od), (3, .ref o), (2, .ref B.1), (1, .ref A.1), (0, .ref b)] [] 1714 := by
    refine V_goto C 3101 dL_law_1714 rfl ?_
    refine V_lv [2, 3, 4, 5, 6, 7] rfl ?_
    exact V_widen (by omega) (by omega) (ke A x1 m1 f1 fd (hRX.mono (by omega)))
  refine V_if_ne C 1714 1702 dL_law_1699 rfl rfl (fun _ => END) (fun e => ?_)
  refine V_aload_n C 4 1703 dL_law_1702 rfl rfl ?_
  refine V_iconst C (0 : Int32) 1704 dL_law_1703 rfl rfl ?_
  refine V_lald C (f := f1) (n := 1) 5 1705 dL_law_1704 rfl rfl (by decide) ?_
  refine V_iload C 0 1707 dL_law_1705 rfl rfl ?_
  refine V_i2l C 1708 dL_law_1707 rfl ?_
  refine V_st (st2 := [.long r.toInt64, .long r.toInt64]) (by rw [show f1 (cl (0 : Int32)) = r.toInt64 from hval e] <;> rfl) ?_
  refine V_lcmpE C 1709 dL_law_1708 rfl ?_
  exact V_if_eq C 1714 1712 dL_law_1709 rfl rfl (fun _ => END) (fun e => absurd rfl e)
theorem law_24 {K : KT} {g : G0} {b L o od t cells slots : Nat} {xs : Nat → Int32} {A : XA} {B : MdA} {x : XV} {m : MdV} {f : Nat → Int64} {fd : Nat → UInt64} (Lk : LK K g b L xs) (ht : 3 * t + 2 < L) (h : RX (30 * t) x m) (hr : cells + 100 ≤ 603072 ∧ slots + 10000 ≤ 7194730) (ke : LE K g b o od B t (cells + 100) (slots + 10000)) : V K cells slots (LW g A B x m o od f fd) (lvL A.1 B.1 b o od t) [] 1717 := by
  obtain ⟨C, hBA, hE, hN, hst, -, -, -, hL, h9⟩ := id Lk
  have hR9 : kR K = room_1 := C.2.2.2.2.2.2.1
  have hlt : ∀ i, i < 9 → i < kn K := fun i h => by rw [h9]; exact h
  obtain ⟨R, r, m1, hx, hm, hok, hout⟩ := Ag.wI (ag_weightInFavour h (xs (3 * t + 1))) (by decide +kernel) (by decide)
  refine V_aload_n C 4 1718 dL_law_1717 rfl rfl ?_
  refine V_arg Lk (t := t) (j := 1) 5 0 1724 (by omega) dL_law_1718 dL_law_1719 dL_law_1721 dL_law_1722 dL_law_1723 rfl rfl rfl rfl ?_
  refine V_aload_n C 2 1725 dL_law_1724 rfl rfl ?_
  refine V_callH C hBA hE hN lh_weightInFavour (pre := mdW g B m) (w0 := oW g A o od f fd x) (post := []) (as := [.ref A.1, .int (xs (3 * t + 1)), .ref o]) (rest := []) (w_weightInFavour hst hx hok) dL_law_1725 ⟨Nat.le_of_ble_eq_true rfl, Nat.le_of_ble_eq_true rfl⟩ rfl (by rw [List.append_nil]) rfl (Nat.le_of_ble_eq_true rfl) ⟨by show cells + 1 ≤ 603072; omega, by show slots + 6 ≤ 7194730; omega⟩ (fun rv w1 hP => ?_)
  obtain ⟨kv, f1, x1, rfl, rfl, hth, hval, hRX⟩ := hout _ _ _ _ _ _ _ hP
  refine V_eq (ws2 := LW g A B x1 m o od f1 fd) (by rw [List.append_nil]) ?_
  refine V_istore C 1730 [(6, .int kv), (5, .int (nI (3 * t))), (4, .ref od), (3, .ref o), (2, .ref B.1), (1, .ref A.1), (0, .ref b)] dL_law_1728 rfl (hlt 6 (by decide)) rfl ?_
  refine V_aload_n C 4 1731 dL_law_1730 rfl rfl ?_
  refine V_arg Lk (t := t) (j := 1) 6 1 1737 (by omega) dL_law_1731 dL_law_1732 dL_law_1734 dL_law_1735 dL_law_1736 rfl rfl rfl rfl ?_
  refine V_callS C hBA ml_L_250 (pre := []) (post := oW g A o od f1 fd x1) (w0 := mdW g B m) (w1 := mdW g B m1) (as := [.int (xs (3 * t + 1))]) (rest := []) (c_X4_weightInFavour (R := (r, m1)) hm) 0 1740 (LW g A B x1 m1 o od f1 fd) dL_law_1737 rfl ⟨Nat.le_of_ble_eq_true rfl, Nat.le_of_ble_eq_true rfl⟩ rfl rfl rfl rfl rfl rfl rfl (Nat.le_of_ble_eq_true rfl) ⟨by rw [hR9]; show cells + 1 ≤ 603072; omega, by rw [hR9]; show slots + 6 ≤ 7194730; omega⟩ ?_
  refine V_istore C 1742 [(7, .int r), (6, .int kv), (5, .int (nI (3 * t))), (4, .ref od), (3, .ref o), (2, .ref B.1), (1, .ref A.1), (0, .ref b)] dL_law_1740 rfl (hlt 7 (by decide)) rfl ?_
  refine V_aload_n C 5 1743 dL_law_1742 rfl rfl ?_
  refine V_callP C ml_L_175 (pre := []) (post := oW g A o od f1 fd x1) (w := mdW g B m1) (as := []) (rest := []) (c_X4_thrown (v := m1) (R := Md_thrown m1) rfl) 0 1746 dL_law_1743 rfl ⟨Nat.le_of_ble_eq_true rfl, Nat.le_of_ble_eq_true rfl⟩ rfl rfl rfl rfl rfl (Nat.le_of_ble_eq_true rfl) ⟨by rw [hR9]; show cells + 1 ≤ 603072; omega, by rw [hR9]; show slots + 6 ≤ 7194730; omega⟩ ?_
  refine V_iload C 1 1748 dL_law_1746 rfl rfl ?_
  refine V_icmp_eq C 1753 1751 dL_law_1748 rfl rfl (fun _ => ?_) (fun e => absurd hth e)
  refine V_iload C 1 1755 dL_law_1753 rfl rfl ?_
  have END : V K (cells + 1) (slots + 6) (LW g A B x1 m1 o od f1 fd) [(7, .int r), (6, .int kv), (5, .int (nI (3 * t))), (4, .ref od), (3, .ref o), (2, .ref B.1), (1, .ref A.1), (0, .ref b)] [] 1770 := by
    refine V_goto C 3101 dL_law_1770 rfl ?_
    refine V_lv [2, 3, 4, 5, 6, 7] rfl ?_
    exact V_widen (by omega) (by omega) (ke A x1 m1 f1 fd (hRX.mono (by omega)))
  refine V_if_ne C 1770 1758 dL_law_1755 rfl rfl (fun _ => END) (fun e => ?_)
  refine V_aload_n C 4 1759 dL_law_1758 rfl rfl ?_
  refine V_iconst C (0 : Int32) 1760 dL_law_1759 rfl rfl ?_
  refine V_lald C (f := f1) (n := 1) 5 1761 dL_law_1760 rfl rfl (by decide) ?_
  refine V_iload C 0 1763 dL_law_1761 rfl rfl ?_
  refine V_i2l C 1764 dL_law_1763 rfl ?_
  refine V_st (st2 := [.long r.toInt64, .long r.toInt64]) (by rw [show f1 (cl (0 : Int32)) = r.toInt64 from hval e] <;> rfl) ?_
  refine V_lcmpE C 1765 dL_law_1764 rfl ?_
  exact V_if_eq C 1770 1768 dL_law_1765 rfl rfl (fun _ => END) (fun e => absurd rfl e)
theorem law_25 {K : KT} {g : G0} {b L o od t cells slots : Nat} {xs : Nat → Int32} {A : XA} {B : MdA} {x : XV} {m : MdV} {f : Nat → Int64} {fd : Nat → UInt64} (Lk : LK K g b L xs) (ht : 3 * t + 2 < L) (h : RX (30 * t) x m) (hr : cells + 100 ≤ 603072 ∧ slots + 10000 ≤ 7194730) (ke : LE K g b o od B t (cells + 100) (slots + 10000)) : V K cells slots (LW g A B x m o od f fd) (lvL A.1 B.1 b o od t) [] 1773 := by
  obtain ⟨C, hBA, hE, hN, hst, -, -, -, hL, h9⟩ := id Lk
  have hR9 : kR K = room_1 := C.2.2.2.2.2.2.1
  have hlt : ∀ i, i < 9 → i < kn K := fun i h => by rw [h9]; exact h
  obtain ⟨R, r, m1, hx, hm, hok, hout⟩ := Ag.wI (ag_weightAgainst h (xs (3 * t + 1))) (by decide +kernel) (by decide)
  refine V_aload_n C 4 1774 dL_law_1773 rfl rfl ?_
  refine V_arg Lk (t := t) (j := 1) 5 0 1780 (by omega) dL_law_1774 dL_law_1775 dL_law_1777 dL_law_1778 dL_law_1779 rfl rfl rfl rfl ?_
  refine V_aload_n C 2 1781 dL_law_1780 rfl rfl ?_
  refine V_callH C hBA hE hN lh_weightAgainst (pre := mdW g B m) (w0 := oW g A o od f fd x) (post := []) (as := [.ref A.1, .int (xs (3 * t + 1)), .ref o]) (rest := []) (w_weightAgainst hst hx hok) dL_law_1781 ⟨Nat.le_of_ble_eq_true rfl, Nat.le_of_ble_eq_true rfl⟩ rfl (by rw [List.append_nil]) rfl (Nat.le_of_ble_eq_true rfl) ⟨by show cells + 1 ≤ 603072; omega, by show slots + 6 ≤ 7194730; omega⟩ (fun rv w1 hP => ?_)
  obtain ⟨kv, f1, x1, rfl, rfl, hth, hval, hRX⟩ := hout _ _ _ _ _ _ _ hP
  refine V_eq (ws2 := LW g A B x1 m o od f1 fd) (by rw [List.append_nil]) ?_
  refine V_istore C 1786 [(6, .int kv), (5, .int (nI (3 * t))), (4, .ref od), (3, .ref o), (2, .ref B.1), (1, .ref A.1), (0, .ref b)] dL_law_1784 rfl (hlt 6 (by decide)) rfl ?_
  refine V_aload_n C 4 1787 dL_law_1786 rfl rfl ?_
  refine V_arg Lk (t := t) (j := 1) 6 1 1793 (by omega) dL_law_1787 dL_law_1788 dL_law_1790 dL_law_1791 dL_law_1792 rfl rfl rfl rfl ?_
  refine V_callS C hBA ml_L_253 (pre := []) (post := oW g A o od f1 fd x1) (w0 := mdW g B m) (w1 := mdW g B m1) (as := [.int (xs (3 * t + 1))]) (rest := []) (c_X4_weightAgainst (R := (r, m1)) hm) 0 1796 (LW g A B x1 m1 o od f1 fd) dL_law_1793 rfl ⟨Nat.le_of_ble_eq_true rfl, Nat.le_of_ble_eq_true rfl⟩ rfl rfl rfl rfl rfl rfl rfl (Nat.le_of_ble_eq_true rfl) ⟨by rw [hR9]; show cells + 1 ≤ 603072; omega, by rw [hR9]; show slots + 6 ≤ 7194730; omega⟩ ?_
  refine V_istore C 1798 [(7, .int r), (6, .int kv), (5, .int (nI (3 * t))), (4, .ref od), (3, .ref o), (2, .ref B.1), (1, .ref A.1), (0, .ref b)] dL_law_1796 rfl (hlt 7 (by decide)) rfl ?_
  refine V_aload_n C 5 1799 dL_law_1798 rfl rfl ?_
  refine V_callP C ml_L_175 (pre := []) (post := oW g A o od f1 fd x1) (w := mdW g B m1) (as := []) (rest := []) (c_X4_thrown (v := m1) (R := Md_thrown m1) rfl) 0 1802 dL_law_1799 rfl ⟨Nat.le_of_ble_eq_true rfl, Nat.le_of_ble_eq_true rfl⟩ rfl rfl rfl rfl rfl (Nat.le_of_ble_eq_true rfl) ⟨by rw [hR9]; show cells + 1 ≤ 603072; omega, by rw [hR9]; show slots + 6 ≤ 7194730; omega⟩ ?_
  refine V_iload C 1 1804 dL_law_1802 rfl rfl ?_
  refine V_icmp_eq C 1809 1807 dL_law_1804 rfl rfl (fun _ => ?_) (fun e => absurd hth e)
  refine V_iload C 1 1811 dL_law_1809 rfl rfl ?_
  have END : V K (cells + 1) (slots + 6) (LW g A B x1 m1 o od f1 fd) [(7, .int r), (6, .int kv), (5, .int (nI (3 * t))), (4, .ref od), (3, .ref o), (2, .ref B.1), (1, .ref A.1), (0, .ref b)] [] 1826 := by
    refine V_goto C 3101 dL_law_1826 rfl ?_
    refine V_lv [2, 3, 4, 5, 6, 7] rfl ?_
    exact V_widen (by omega) (by omega) (ke A x1 m1 f1 fd (hRX.mono (by omega)))
  refine V_if_ne C 1826 1814 dL_law_1811 rfl rfl (fun _ => END) (fun e => ?_)
  refine V_aload_n C 4 1815 dL_law_1814 rfl rfl ?_
  refine V_iconst C (0 : Int32) 1816 dL_law_1815 rfl rfl ?_
  refine V_lald C (f := f1) (n := 1) 5 1817 dL_law_1816 rfl rfl (by decide) ?_
  refine V_iload C 0 1819 dL_law_1817 rfl rfl ?_
  refine V_i2l C 1820 dL_law_1819 rfl ?_
  refine V_st (st2 := [.long r.toInt64, .long r.toInt64]) (by rw [show f1 (cl (0 : Int32)) = r.toInt64 from hval e] <;> rfl) ?_
  refine V_lcmpE C 1821 dL_law_1820 rfl ?_
  exact V_if_eq C 1826 1824 dL_law_1821 rfl rfl (fun _ => END) (fun e => absurd rfl e)
theorem law_26 {K : KT} {g : G0} {b L o od t cells slots : Nat} {xs : Nat → Int32} {A : XA} {B : MdA} {x : XV} {m : MdV} {f : Nat → Int64} {fd : Nat → UInt64} (Lk : LK K g b L xs) (ht : 3 * t + 2 < L) (h : RX (30 * t) x m) (hr : cells + 100 ≤ 603072 ∧ slots + 10000 ≤ 7194730) (ke : LE K g b o od B t (cells + 100) (slots + 10000)) : V K cells slots (LW g A B x m o od f fd) (lvL A.1 B.1 b o od t) [] 1829 := by
  obtain ⟨C, hBA, hE, hN, hst, -, -, -, hL, h9⟩ := id Lk
  have hR9 : kR K = room_1 := C.2.2.2.2.2.2.1
  have hlt : ∀ i, i < 9 → i < kn K := fun i h => by rw [h9]; exact h
  obtain ⟨R, r, m1, hx, hm, hok, hout⟩ := Ag.wI (ag_weightAgainstByTotal h (xs (3 * t + 1))) (by decide +kernel) (by decide)
  refine V_aload_n C 4 1830 dL_law_1829 rfl rfl ?_
  refine V_arg Lk (t := t) (j := 1) 5 0 1836 (by omega) dL_law_1830 dL_law_1831 dL_law_1833 dL_law_1834 dL_law_1835 rfl rfl rfl rfl ?_
  refine V_aload_n C 2 1837 dL_law_1836 rfl rfl ?_
  refine V_callH C hBA hE hN lh_weightAgainstByTotal (pre := mdW g B m) (w0 := oW g A o od f fd x) (post := []) (as := [.ref A.1, .int (xs (3 * t + 1)), .ref o]) (rest := []) (w_weightAgainstByTotal hst hx hok) dL_law_1837 ⟨Nat.le_of_ble_eq_true rfl, Nat.le_of_ble_eq_true rfl⟩ rfl (by rw [List.append_nil]) rfl (Nat.le_of_ble_eq_true rfl) ⟨by show cells + 1 ≤ 603072; omega, by show slots + 6 ≤ 7194730; omega⟩ (fun rv w1 hP => ?_)
  obtain ⟨kv, f1, x1, rfl, rfl, hth, hval, hRX⟩ := hout _ _ _ _ _ _ _ hP
  refine V_eq (ws2 := LW g A B x1 m o od f1 fd) (by rw [List.append_nil]) ?_
  refine V_istore C 1842 [(6, .int kv), (5, .int (nI (3 * t))), (4, .ref od), (3, .ref o), (2, .ref B.1), (1, .ref A.1), (0, .ref b)] dL_law_1840 rfl (hlt 6 (by decide)) rfl ?_
  refine V_aload_n C 4 1843 dL_law_1842 rfl rfl ?_
  refine V_arg Lk (t := t) (j := 1) 6 1 1849 (by omega) dL_law_1843 dL_law_1844 dL_law_1846 dL_law_1847 dL_law_1848 rfl rfl rfl rfl ?_
  refine V_callS C hBA ml_L_256 (pre := []) (post := oW g A o od f1 fd x1) (w0 := mdW g B m) (w1 := mdW g B m1) (as := [.int (xs (3 * t + 1))]) (rest := []) (c_X4_weightAgainstByTotal (R := (r, m1)) hm) 0 1852 (LW g A B x1 m1 o od f1 fd) dL_law_1849 rfl ⟨Nat.le_of_ble_eq_true rfl, Nat.le_of_ble_eq_true rfl⟩ rfl rfl rfl rfl rfl rfl rfl (Nat.le_of_ble_eq_true rfl) ⟨by rw [hR9]; show cells + 1 ≤ 603072; omega, by rw [hR9]; show slots + 6 ≤ 7194730; omega⟩ ?_
  refine V_istore C 1854 [(7, .int r), (6, .int kv), (5, .int (nI (3 * t))), (4, .ref od), (3, .ref o), (2, .ref B.1), (1, .ref A.1), (0, .ref b)] dL_law_1852 rfl (hlt 7 (by decide)) rfl ?_
  refine V_aload_n C 5 1855 dL_law_1854 rfl rfl ?_
  refine V_callP C ml_L_175 (pre := []) (post := oW g A o od f1 fd x1) (w := mdW g B m1) (as := []) (rest := []) (c_X4_thrown (v := m1) (R := Md_thrown m1) rfl) 0 1858 dL_law_1855 rfl ⟨Nat.le_of_ble_eq_true rfl, Nat.le_of_ble_eq_true rfl⟩ rfl rfl rfl rfl rfl (Nat.le_of_ble_eq_true rfl) ⟨by rw [hR9]; show cells + 1 ≤ 603072; omega, by rw [hR9]; show slots + 6 ≤ 7194730; omega⟩ ?_
  refine V_iload C 1 1860 dL_law_1858 rfl rfl ?_
  refine V_icmp_eq C 1865 1863 dL_law_1860 rfl rfl (fun _ => ?_) (fun e => absurd hth e)
  refine V_iload C 1 1867 dL_law_1865 rfl rfl ?_
  have END : V K (cells + 1) (slots + 6) (LW g A B x1 m1 o od f1 fd) [(7, .int r), (6, .int kv), (5, .int (nI (3 * t))), (4, .ref od), (3, .ref o), (2, .ref B.1), (1, .ref A.1), (0, .ref b)] [] 1882 := by
    refine V_goto C 3101 dL_law_1882 rfl ?_
    refine V_lv [2, 3, 4, 5, 6, 7] rfl ?_
    exact V_widen (by omega) (by omega) (ke A x1 m1 f1 fd (hRX.mono (by omega)))
  refine V_if_ne C 1882 1870 dL_law_1867 rfl rfl (fun _ => END) (fun e => ?_)
  refine V_aload_n C 4 1871 dL_law_1870 rfl rfl ?_
  refine V_iconst C (0 : Int32) 1872 dL_law_1871 rfl rfl ?_
  refine V_lald C (f := f1) (n := 1) 5 1873 dL_law_1872 rfl rfl (by decide) ?_
  refine V_iload C 0 1875 dL_law_1873 rfl rfl ?_
  refine V_i2l C 1876 dL_law_1875 rfl ?_
  refine V_st (st2 := [.long r.toInt64, .long r.toInt64]) (by rw [show f1 (cl (0 : Int32)) = r.toInt64 from hval e] <;> rfl) ?_
  refine V_lcmpE C 1877 dL_law_1876 rfl ?_
  exact V_if_eq C 1882 1880 dL_law_1877 rfl rfl (fun _ => END) (fun e => absurd rfl e)
theorem law_27 {K : KT} {g : G0} {b L o od t cells slots : Nat} {xs : Nat → Int32} {A : XA} {B : MdA} {x : XV} {m : MdV} {f : Nat → Int64} {fd : Nat → UInt64} (Lk : LK K g b L xs) (ht : 3 * t + 2 < L) (h : RX (30 * t) x m) (hr : cells + 100 ≤ 603072 ∧ slots + 10000 ≤ 7194730) (ke : LE K g b o od B t (cells + 100) (slots + 10000)) : V K cells slots (LW g A B x m o od f fd) (lvL A.1 B.1 b o od t) [] 1885 := by
  obtain ⟨C, hBA, hE, hN, hst, -, -, -, hL, h9⟩ := id Lk
  have hR9 : kR K = room_1 := C.2.2.2.2.2.2.1
  have hlt : ∀ i, i < 9 → i < kn K := fun i h => by rw [h9]; exact h
  obtain ⟨R, r, m1, hx, hm, hok, hout⟩ := Ag.wB (ag_wouldDissolve h (xs (3 * t + 1))) (by decide +kernel) (by decide)
  refine V_aload_n C 4 1886 dL_law_1885 rfl rfl ?_
  refine V_arg Lk (t := t) (j := 1) 5 0 1892 (by omega) dL_law_1886 dL_law_1887 dL_law_1889 dL_law_1890 dL_law_1891 rfl rfl rfl rfl ?_
  refine V_aload_n C 2 1893 dL_law_1892 rfl rfl ?_
  refine V_callH C hBA hE hN lh_wouldDissolve (pre := mdW g B m) (w0 := oW g A o od f fd x) (post := []) (as := [.ref A.1, .int (xs (3 * t + 1)), .ref o]) (rest := []) (w_wouldDissolve hst hx hok) dL_law_1893 ⟨Nat.le_of_ble_eq_true rfl, Nat.le_of_ble_eq_true rfl⟩ rfl (by rw [List.append_nil]) rfl (Nat.le_of_ble_eq_true rfl) ⟨by show cells + 1 ≤ 603072; omega, by show slots + 6 ≤ 7194730; omega⟩ (fun rv w1 hP => ?_)
  obtain ⟨kv, f1, x1, rfl, rfl, hth, hval, hRX⟩ := hout _ _ _ _ _ _ _ hP
  refine V_eq (ws2 := LW g A B x1 m o od f1 fd) (by rw [List.append_nil]) ?_
  refine V_istore C 1898 [(6, .int kv), (5, .int (nI (3 * t))), (4, .ref od), (3, .ref o), (2, .ref B.1), (1, .ref A.1), (0, .ref b)] dL_law_1896 rfl (hlt 6 (by decide)) rfl ?_
  refine V_aload_n C 4 1899 dL_law_1898 rfl rfl ?_
  refine V_arg Lk (t := t) (j := 1) 6 1 1905 (by omega) dL_law_1899 dL_law_1900 dL_law_1902 dL_law_1903 dL_law_1904 rfl rfl rfl rfl ?_
  refine V_callS C hBA ml_L_259 (pre := []) (post := oW g A o od f1 fd x1) (w0 := mdW g B m) (w1 := mdW g B m1) (as := [.int (xs (3 * t + 1))]) (rest := []) (c_X4_wouldDissolve (R := (r, m1)) hm) 0 1908 (LW g A B x1 m1 o od f1 fd) dL_law_1905 rfl ⟨Nat.le_of_ble_eq_true rfl, Nat.le_of_ble_eq_true rfl⟩ rfl rfl rfl rfl rfl rfl rfl (Nat.le_of_ble_eq_true rfl) ⟨by rw [hR9]; show cells + 1 ≤ 603072; omega, by rw [hR9]; show slots + 6 ≤ 7194730; omega⟩ ?_
  refine V_istore C 1910 [(7, .int r), (6, .int kv), (5, .int (nI (3 * t))), (4, .ref od), (3, .ref o), (2, .ref B.1), (1, .ref A.1), (0, .ref b)] dL_law_1908 rfl (hlt 7 (by decide)) rfl ?_
  refine V_aload_n C 5 1911 dL_law_1910 rfl rfl ?_
  refine V_callP C ml_L_175 (pre := []) (post := oW g A o od f1 fd x1) (w := mdW g B m1) (as := []) (rest := []) (c_X4_thrown (v := m1) (R := Md_thrown m1) rfl) 0 1914 dL_law_1911 rfl ⟨Nat.le_of_ble_eq_true rfl, Nat.le_of_ble_eq_true rfl⟩ rfl rfl rfl rfl rfl (Nat.le_of_ble_eq_true rfl) ⟨by rw [hR9]; show cells + 1 ≤ 603072; omega, by rw [hR9]; show slots + 6 ≤ 7194730; omega⟩ ?_
  refine V_iload C 1 1916 dL_law_1914 rfl rfl ?_
  refine V_icmp_eq C 1921 1919 dL_law_1916 rfl rfl (fun _ => ?_) (fun e => absurd hth e)
  refine V_iload C 1 1923 dL_law_1921 rfl rfl ?_
  have END : V K (cells + 1) (slots + 6) (LW g A B x1 m1 o od f1 fd) [(7, .int r), (6, .int kv), (5, .int (nI (3 * t))), (4, .ref od), (3, .ref o), (2, .ref B.1), (1, .ref A.1), (0, .ref b)] [] 1945 := by
    refine V_goto C 3101 dL_law_1945 rfl ?_
    refine V_lv [2, 3, 4, 5, 6, 7] rfl ?_
    exact V_widen (by omega) (by omega) (ke A x1 m1 f1 fd (hRX.mono (by omega)))
  refine V_if_ne C 1945 1926 dL_law_1923 rfl rfl (fun _ => END) (fun e => ?_)
  refine V_aload_n C 4 1927 dL_law_1926 rfl rfl ?_
  refine V_iconst C (0 : Int32) 1928 dL_law_1927 rfl rfl ?_
  refine V_lald C (f := f1) (n := 1) 5 1929 dL_law_1928 rfl rfl (by decide) ?_
  refine V_iload C 0 1931 dL_law_1929 rfl rfl ?_
  refine V_if_eq C 1938 1934 dL_law_1931 rfl rfl (fun e2 => ?_) (fun e2 => ?_)
  · refine V_lconst C (0 : Int64) 1939 dL_law_1938 rfl rfl ?_
    refine V_st (st2 := [.long (0 : Int64), .long (0 : Int64)]) (by rw [show f1 (cl (0 : Int32)) = (0 : Int64) from (hval e).trans (if_pos e2)] <;> rfl) ?_
    refine V_lcmpE C 1940 dL_law_1939 rfl ?_
    exact V_if_eq C 1945 1943 dL_law_1940 rfl rfl (fun _ => END) (fun e => absurd rfl e)
  · refine V_lconst C (1 : Int64) 1935 dL_law_1934 rfl rfl ?_
    refine V_goto C 1939 dL_law_1935 rfl ?_
    refine V_st (st2 := [.long (1 : Int64), .long (1 : Int64)]) (by rw [show f1 (cl (0 : Int32)) = (1 : Int64) from (hval e).trans (if_neg e2)] <;> rfl) ?_
    refine V_lcmpE C 1940 dL_law_1939 rfl ?_
    exact V_if_eq C 1945 1943 dL_law_1940 rfl rfl (fun _ => END) (fun e => absurd rfl e)
