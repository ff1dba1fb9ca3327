/-! ===== the law, call by call ===== -/
set_option maxHeartbeats 4000000 in
set_option maxRecDepth 100000 in
theorem law_21 {X : Cxt} {nm : String} {tb : List ExceptionTableEntry} (C : Ok X cL_law 7 ⟨RL, nm, ""⟩ room_1 ret tb) {b L : Nat} {sc : Nat → Int32} (hS : Scr X b L sc) (hL : L ≤ 1536) {j : Nat} (hj : j < 512) (h3 : 3 * j + 3 ≤ L) {s u : St} {ad : Nat → Nat} {F : Fn} {th : Int32} (hs : Kp s) (hu : Kp u) (hm : Sim s u) (hn : zNow s ≤ 200 * j) (hC : CRep (xD X) ad F s) (hM : MRep (xD X) ad F u th) {f0 : Nat → Int64} (h400 : F 400 = some (aJ (xD X) 1 f0)) (nx : NX X b j) : V X (50 + 13 * j) (12000 + 900 * j) 1168 [(0, .ref b), (1, .ref (ad 0)), (2, .ref (ad 300)), (3, .ref (ad 400)), (4, .int (nI (3 * j)))] [] ad F := by
  have hun : zNow u ≤ 190000 := by rw [hm.1.1]; omega
  have hsn : zNow s ≤ 190000 := by omega
  obtain ⟨a, ea⟩ : ∃ a, a = sc (3 * j + 1) := ⟨_, rfl⟩
  obtain ⟨c, ec⟩ : ∃ c, c = sc (3 * j + 2) := ⟨_, rfl⟩
  refine V_aload_n C dL_law_1168 rfl ?_
  refine V_aload_n C dL_law_1169 rfl ?_
  refine V_iload C dL_law_1170 rfl ?_
  refine V_iconst (v := 1) C dL_law_1172 rfl ?_
  refine V_iadd C dL_law_1173 ?_
  refine V_nm (nI_1 (3 * j)) ?_
  refine V_sld C hS dL_law_1174 rfl (by omega) (by omega) ?_
  refine V_nm ea.symm ?_
  refine V_aload_n C dL_law_1175 rfl ?_
  refine V_iload C dL_law_1176 rfl ?_
  refine V_iconst (v := 2) C dL_law_1178 rfl ?_
  refine V_iadd C dL_law_1179 ?_
  refine V_nm (nI_add (3 * j) 2) ?_
  refine V_sld C hS dL_law_1180 rfl (by omega) (by omega) ?_
  refine V_nm ec.symm ?_
  refine V_aload_n C dL_law_1181 rfl ?_
  refine V_invH C dL_law_1182 (w_acknowledge s a c f0 hC hs.1 hs.2 h400 (ok_ack hs).1) mh_L_161 rfl (Nat.le_of_ble_eq_true rfl) ⟨Nat.le_of_ble_eq_true rfl, Nat.le_of_ble_eq_true rfl⟩ ⟨(by show 50 + 13 * j + 13 ≤ 601024; omega), (by show 12000 + 900 * j + 900 ≤ 7293033; omega)⟩ (fun _ _ _ h => VT_no h) (fun v ad1 F1 hp => ?_)
  obtain ⟨rfl, hC1, ⟨f1, h401, hf1⟩, hfk, ha0⟩ := hp
  have had := fun c hc => (hfk c hc).1
  have hFk : ∀ c, 300 ≤ c → c ≠ 400 → F1 c = F c := fun c hc hne => (hfk c hc).2 hne
  have hA := sm_ack (a := a) (o := c) hm hs.1 hs.2
  rw [show ad 0 = ad1 0 from ha0.symm, show ad 300 = ad1 300 from (had 300 (by decide)).symm, show ad 400 = ad1 400 from (had 400 (by decide)).symm]
  have hM1 := hM.keptK (fun c hc _ => had c hc) hFk
  have hMd := hM1.1
  unfold mObj at hMd
  refine V_istore C dL_law_1185 (by decide) ?_
  refine V_aload_n C dL_law_1187 rfl ?_
  refine V_aload_n C dL_law_1188 rfl ?_
  refine V_iload C dL_law_1189 rfl ?_
  refine V_iconst (v := 1) C dL_law_1191 rfl ?_
  refine V_iadd C dL_law_1192 ?_
  refine V_nm (nI_1 (3 * j)) ?_
  refine V_sld C hS dL_law_1193 rfl (by omega) (by omega) ?_
  refine V_nm ea.symm ?_
  refine V_aload_n C dL_law_1194 rfl ?_
  refine V_iload C dL_law_1195 rfl ?_
  refine V_iconst (v := 2) C dL_law_1197 rfl ?_
  refine V_iadd C dL_law_1198 ?_
  refine V_nm (nI_add (3 * j) 2) ?_
  refine V_sld C hS dL_law_1199 rfl (by omega) (by omega) ?_
  refine V_nm ec.symm ?_
  refine V_invV C dL_law_1200 hMd rfl (m_acknowledge u th a c hM1 hu.1 hu.2) mv_L_163 rfl (Nat.le_of_ble_eq_true rfl) ⟨Nat.le_of_ble_eq_true rfl, Nat.le_of_ble_eq_true rfl⟩ ⟨(by show 50 + 13 * j + 13 + 0 ≤ 601024; omega), (by show 12000 + 900 * j + 900 + 0 ≤ 7293033; omega)⟩ (fun _ _ _ h => VT_no h) (fun v ad1 F2 hp => ?_)
  obtain ⟨rfl, rfl, hM2, hfm⟩ := hp
  have h402 := (hfm 400 (Or.inr (Nat.le_refl _))).2.trans h401
  have hC2 := hC1.keptF (ok_ack hs).1 (fun c hc => (hfm c (Or.inl hc)).2)
  have hMd2 := hM2.1
  unfold mObj at hMd2
  refine V_istore C dL_law_1203 (by decide) ?_
  refine V_aload_n C dL_law_1205 rfl ?_
  refine V_invV C dL_law_1206 hMd2 rfl (m_thrown _ _ _ _ _ hM2.1) mv_L_90 rfl (Nat.le_of_ble_eq_true rfl) ⟨Nat.le_of_ble_eq_true rfl, Nat.le_of_ble_eq_true rfl⟩ ⟨(by show 50 + 13 * j + 13 + 0 + 0 ≤ 601024; omega), (by show 12000 + 900 * j + 900 + 0 + 0 ≤ 7293033; omega)⟩ (fun _ _ _ h => VT_no h) (fun v ad2 F3 hp => ?_)
  obtain ⟨rfl, rfl, rfl⟩ := hp
  refine V_iload C dL_law_1209 rfl ?_
  refine V_icmpeq_t (tgt := 1216) C dL_law_1211 (by decide) (by rw [hA.1]) ?_
  refine V_iload C dL_law_1216 rfl ?_
  refine V_ifne (tgt := 1233) C dL_law_1218 (by decide) (fun h5 => ?_) (fun h5 => ?_)
  · refine V_goto (tgt := 1408) C dL_law_1233 (by decide) ?_
    refine V_wide (by show 50 + 13 * j + 13 ≤ 50 + 13 * j + 13; omega) (by show 12000 + 900 * j + 900 ≤ 12000 + 900 * j + 900; omega) ?_
    exact V_sb (nx _ _ ad1 F2 _ (ok_ack hs) (ok_ackM hu) hA.2.2 (Nat.le_trans nw_spAck (by omega)) hC2 hM2 ⟨f1, h402⟩) ⟨rfl, rfl, rfl, rfl, rfl, trivial⟩
  · have h0 : (spAck s a c).1 = 0 := (nI_eq (b := 0) (by have := lt_spAck (s := s) (a := a) (b := c); omega) (by decide)).mp h5
    refine V_aload_n C dL_law_1221 rfl ?_
    refine V_iconst (v := 0) C dL_law_1222 rfl ?_
    refine V_lald C dL_law_1223 h402 (show (0 : Int32) = nI 0 from rfl) (by decide) (by decide) ?_
    refine V_iload C dL_law_1224 rfl ?_
    refine V_i2l C dL_law_1226 rfl ?_
    refine V_lcmp C dL_law_1227 ?_
    refine V_nm (show _ = (0 : Int32) by rw [hf1 h0, hA.2.1]; exact lg_self _) ?_
    refine V_ifeq_t (tgt := 1233) C dL_law_1228 (by decide) rfl ?_
    refine V_goto (tgt := 1408) C dL_law_1233 (by decide) ?_
    refine V_wide (by show 50 + 13 * j + 13 ≤ 50 + 13 * j + 13; omega) (by show 12000 + 900 * j + 900 ≤ 12000 + 900 * j + 900; omega) ?_
    exact V_sb (nx _ _ ad1 F2 _ (ok_ack hs) (ok_ackM hu) hA.2.2 (Nat.le_trans nw_spAck (by omega)) hC2 hM2 ⟨f1, h402⟩) ⟨rfl, rfl, rfl, rfl, rfl, trivial⟩
set_option maxHeartbeats 4000000 in
set_option maxRecDepth 100000 in
theorem law_22 {X : Cxt} {nm : String} {tb : List ExceptionTableEntry} (C : Ok X cL_law 7 ⟨RL, nm, ""⟩ room_1 ret tb) {b L : Nat} {sc : Nat → Int32} (hS : Scr X b L sc) (hL : L ≤ 1536) {j : Nat} (hj : j < 512) (h3 : 3 * j + 3 ≤ L) {s u : St} {ad : Nat → Nat} {F : Fn} {th : Int32} (hs : Kp s) (hu : Kp u) (hm : Sim s u) (hn : zNow s ≤ 200 * j) (hC : CRep (xD X) ad F s) (hM : MRep (xD X) ad F u th) {f0 : Nat → Int64} (h400 : F 400 = some (aJ (xD X) 1 f0)) (nx : NX X b j) : V X (50 + 13 * j) (12000 + 900 * j) 1236 [(0, .ref b), (1, .ref (ad 0)), (2, .ref (ad 300)), (3, .ref (ad 400)), (4, .int (nI (3 * j)))] [] ad F := by
  have hun : zNow u ≤ 190000 := by rw [hm.1.1]; omega
  have hsn : zNow s ≤ 190000 := by omega
  obtain ⟨a, ea⟩ : ∃ a, a = sc (3 * j + 1) := ⟨_, rfl⟩
  refine V_aload_n C dL_law_1236 rfl ?_
  refine V_aload_n C dL_law_1237 rfl ?_
  refine V_iload C dL_law_1238 rfl ?_
  refine V_iconst (v := 1) C dL_law_1240 rfl ?_
  refine V_iadd C dL_law_1241 ?_
  refine V_nm (nI_1 (3 * j)) ?_
  refine V_sld C hS dL_law_1242 rfl (by omega) (by omega) ?_
  refine V_nm ea.symm ?_
  refine V_aload_n C dL_law_1243 rfl ?_
  refine V_invH C dL_law_1244 (w_alert s a f0 hC hs.1 h400 (ok_alert hs).1) mh_L_164 rfl (Nat.le_of_ble_eq_true rfl) ⟨Nat.le_of_ble_eq_true rfl, Nat.le_of_ble_eq_true rfl⟩ ⟨(by show 50 + 13 * j + 13 ≤ 601024; omega), (by show 12000 + 900 * j + 900 ≤ 7293033; omega)⟩ (fun _ _ _ h => VT_no h) (fun v ad1 F1 hp => ?_)
  obtain ⟨rfl, hC1, ⟨f1, h401, hf1⟩, hfk, ha0⟩ := hp
  have had := fun c hc => (hfk c hc).1
  have hFk : ∀ c, 300 ≤ c → c ≠ 400 → F1 c = F c := fun c hc hne => (hfk c hc).2 hne
  have hA := sm_alert (a := a) hm
  rw [show ad 0 = ad1 0 from ha0.symm, show ad 300 = ad1 300 from (had 300 (by decide)).symm, show ad 400 = ad1 400 from (had 400 (by decide)).symm]
  have hM1 := hM.keptK (fun c hc _ => had c hc) hFk
  have hMd := hM1.1
  unfold mObj at hMd
  refine V_istore C dL_law_1247 (by decide) ?_
  refine V_aload_n C dL_law_1249 rfl ?_
  refine V_aload_n C dL_law_1250 rfl ?_
  refine V_iload C dL_law_1251 rfl ?_
  refine V_iconst (v := 1) C dL_law_1253 rfl ?_
  refine V_iadd C dL_law_1254 ?_
  refine V_nm (nI_1 (3 * j)) ?_
  refine V_sld C hS dL_law_1255 rfl (by omega) (by omega) ?_
  refine V_nm ea.symm ?_
  refine V_invV C dL_law_1256 hMd rfl (m_alert u th a hM1 hu.1) mv_L_166 rfl (Nat.le_of_ble_eq_true rfl) ⟨Nat.le_of_ble_eq_true rfl, Nat.le_of_ble_eq_true rfl⟩ ⟨(by show 50 + 13 * j + 13 + 0 ≤ 601024; omega), (by show 12000 + 900 * j + 900 + 0 ≤ 7293033; omega)⟩ (fun _ _ _ h => VT_no h) (fun v ad1 F2 hp => ?_)
  obtain ⟨rfl, rfl, hM2, hfm⟩ := hp
  have h402 := (hfm 400 (Or.inr (Nat.le_refl _))).2.trans h401
  have hC2 := hC1.keptF (ok_alert hs).1 (fun c hc => (hfm c (Or.inl hc)).2)
  have hMd2 := hM2.1
  unfold mObj at hMd2
  refine V_istore C dL_law_1259 (by decide) ?_
  refine V_aload_n C dL_law_1261 rfl ?_
  refine V_invV C dL_law_1262 hMd2 rfl (m_thrown _ _ _ _ _ hM2.1) mv_L_90 rfl (Nat.le_of_ble_eq_true rfl) ⟨Nat.le_of_ble_eq_true rfl, Nat.le_of_ble_eq_true rfl⟩ ⟨(by show 50 + 13 * j + 13 + 0 + 0 ≤ 601024; omega), (by show 12000 + 900 * j + 900 + 0 + 0 ≤ 7293033; omega)⟩ (fun _ _ _ h => VT_no h) (fun v ad2 F3 hp => ?_)
  obtain ⟨rfl, rfl, rfl⟩ := hp
  refine V_iload C dL_law_1265 rfl ?_
  refine V_icmpeq_t (tgt := 1272) C dL_law_1267 (by decide) (by rw [hA.1]) ?_
  refine V_iload C dL_law_1272 rfl ?_
  refine V_ifne (tgt := 1289) C dL_law_1274 (by decide) (fun h5 => ?_) (fun h5 => ?_)
  · refine V_goto (tgt := 1408) C dL_law_1289 (by decide) ?_
    refine V_wide (by show 50 + 13 * j + 13 ≤ 50 + 13 * j + 13; omega) (by show 12000 + 900 * j + 900 ≤ 12000 + 900 * j + 900; omega) ?_
    exact V_sb (nx _ _ ad1 F2 _ (ok_alert hs) (ok_alert hu) hA.2.2 (Nat.le_trans nw_spAlert (by omega)) hC2 hM2 ⟨f1, h402⟩) ⟨rfl, rfl, rfl, rfl, rfl, trivial⟩
  · have h0 : (spAlert s a).1 = 0 := (nI_eq (b := 0) (by have := lt_spAlert (s := s) (a := a); omega) (by decide)).mp h5
    refine V_aload_n C dL_law_1277 rfl ?_
    refine V_iconst (v := 0) C dL_law_1278 rfl ?_
    refine V_lald C dL_law_1279 h402 (show (0 : Int32) = nI 0 from rfl) (by decide) (by decide) ?_
    refine V_iload C dL_law_1280 rfl ?_
    refine V_i2l C dL_law_1282 rfl ?_
    refine V_lcmp C dL_law_1283 ?_
    refine V_nm (show _ = (0 : Int32) by rw [hf1 h0, hA.2.1]; exact lg_self _) ?_
    refine V_ifeq_t (tgt := 1289) C dL_law_1284 (by decide) rfl ?_
    refine V_goto (tgt := 1408) C dL_law_1289 (by decide) ?_
    refine V_wide (by show 50 + 13 * j + 13 ≤ 50 + 13 * j + 13; omega) (by show 12000 + 900 * j + 900 ≤ 12000 + 900 * j + 900; omega) ?_
    exact V_sb (nx _ _ ad1 F2 _ (ok_alert hs) (ok_alert hu) hA.2.2 (Nat.le_trans nw_spAlert (by omega)) hC2 hM2 ⟨f1, h402⟩) ⟨rfl, rfl, rfl, rfl, rfl, trivial⟩
set_option maxHeartbeats 4000000 in
set_option maxRecDepth 100000 in
theorem law_23 {X : Cxt} {nm : String} {tb : List ExceptionTableEntry} (C : Ok X cL_law 7 ⟨RL, nm, ""⟩ room_1 ret tb) {b L : Nat} {sc : Nat → Int32} (hS : Scr X b L sc) (hL : L ≤ 1536) {j : Nat} (hj : j < 512) (h3 : 3 * j + 3 ≤ L) {s u : St} {ad : Nat → Nat} {F : Fn} {th : Int32} (hs : Kp s) (hu : Kp u) (hm : Sim s u) (hn : zNow s ≤ 200 * j) (hC : CRep (xD X) ad F s) (hM : MRep (xD X) ad F u th) {f0 : Nat → Int64} (h400 : F 400 = some (aJ (xD X) 1 f0)) (nx : NX X b j) : V X (50 + 13 * j) (12000 + 900 * j) 1292 [(0, .ref b), (1, .ref (ad 0)), (2, .ref (ad 300)), (3, .ref (ad 400)), (4, .int (nI (3 * j)))] [] ad F := by
  have hun : zNow u ≤ 190000 := by rw [hm.1.1]; omega
  have hsn : zNow s ≤ 190000 := by omega
  obtain ⟨a, ea⟩ : ∃ a, a = sc (3 * j + 1) := ⟨_, rfl⟩
  obtain ⟨c, ec⟩ : ∃ c, c = sc (3 * j + 2) := ⟨_, rfl⟩
  refine V_aload_n C dL_law_1292 rfl ?_
  refine V_aload_n C dL_law_1293 rfl ?_
  refine V_iload C dL_law_1294 rfl ?_
  refine V_iconst (v := 1) C dL_law_1296 rfl ?_
  refine V_iadd C dL_law_1297 ?_
  refine V_nm (nI_1 (3 * j)) ?_
  refine V_sld C hS dL_law_1298 rfl (by omega) (by omega) ?_
  refine V_nm ea.symm ?_
  refine V_aload_n C dL_law_1299 rfl ?_
  refine V_iload C dL_law_1300 rfl ?_
  refine V_iconst (v := 2) C dL_law_1302 rfl ?_
  refine V_iadd C dL_law_1303 ?_
  refine V_nm (nI_add (3 * j) 2) ?_
  refine V_sld C hS dL_law_1304 rfl (by omega) (by omega) ?_
  refine V_nm ec.symm ?_
  refine V_invH C dL_law_1305 (w_setKeyword s a c hC hs.1) mh_L_167 rfl (Nat.le_of_ble_eq_true rfl) ⟨Nat.le_of_ble_eq_true rfl, Nat.le_of_ble_eq_true rfl⟩ ⟨(by show 50 + 13 * j + 13 ≤ 601024; omega), (by show 12000 + 900 * j + 900 ≤ 7293033; omega)⟩ (fun _ _ _ h => VT_no h) (fun v ad1 F1 hp => ?_)
  obtain ⟨rfl, hC1, hfk, ha0⟩ := hp
  have h401 := (hfk 400 (by decide)).2.trans h400
  have had := fun c hc => (hfk c hc).1
  have hFk : ∀ c, 300 ≤ c → c ≠ 400 → F1 c = F c := fun c hc _ => (hfk c hc).2
  have hA := sm_key (a := a) (b := c) hm
  rw [show ad 0 = ad1 0 from ha0.symm, show ad 300 = ad1 300 from (had 300 (by decide)).symm, show ad 400 = ad1 400 from (had 400 (by decide)).symm]
  have hM1 := hM.keptK (fun c hc _ => had c hc) hFk
  have hMd := hM1.1
  unfold mObj at hMd
  refine V_istore C dL_law_1308 (by decide) ?_
  refine V_aload_n C dL_law_1310 rfl ?_
  refine V_aload_n C dL_law_1311 rfl ?_
  refine V_iload C dL_law_1312 rfl ?_
  refine V_iconst (v := 1) C dL_law_1314 rfl ?_
  refine V_iadd C dL_law_1315 ?_
  refine V_nm (nI_1 (3 * j)) ?_
  refine V_sld C hS dL_law_1316 rfl (by omega) (by omega) ?_
  refine V_nm ea.symm ?_
  refine V_aload_n C dL_law_1317 rfl ?_
  refine V_iload C dL_law_1318 rfl ?_
  refine V_iconst (v := 2) C dL_law_1320 rfl ?_
  refine V_iadd C dL_law_1321 ?_
  refine V_nm (nI_add (3 * j) 2) ?_
  refine V_sld C hS dL_law_1322 rfl (by omega) (by omega) ?_
  refine V_nm ec.symm ?_
  refine V_invV C dL_law_1323 hMd rfl (m_setKeyword u th a c hM1 hu.1 (by rw [hm.1.2.2.2.2.2.2.2.2.2.2.2.2.2.2.1]; exact hm.2.2.2.2.1)) mv_L_170 rfl (Nat.le_of_ble_eq_true rfl) ⟨Nat.le_of_ble_eq_true rfl, Nat.le_of_ble_eq_true rfl⟩ ⟨(by show 50 + 13 * j + 13 + 0 ≤ 601024; omega), (by show 12000 + 900 * j + 900 + 0 ≤ 7293033; omega)⟩ (fun _ _ _ h => VT_no h) (fun v ad1 F2 hp => ?_)
  obtain ⟨rfl, rfl, hM2, hfm⟩ := hp
  have h402 := (hfm 400 (Or.inr (Nat.le_refl _))).2.trans h401
  have hC2 := hC1.keptF (ok_key hs).1 (fun c hc => (hfm c (Or.inl hc)).2)
  have hMd2 := hM2.1
  unfold mObj at hMd2
  refine V_aload_n C dL_law_1326 rfl ?_
  refine V_invV C dL_law_1327 hMd2 rfl (m_thrown _ _ _ _ _ hM2.1) mv_L_90 rfl (Nat.le_of_ble_eq_true rfl) ⟨Nat.le_of_ble_eq_true rfl, Nat.le_of_ble_eq_true rfl⟩ ⟨(by show 50 + 13 * j + 13 + 0 + 0 ≤ 601024; omega), (by show 12000 + 900 * j + 900 + 0 + 0 ≤ 7293033; omega)⟩ (fun _ _ _ h => VT_no h) (fun v ad2 F3 hp => ?_)
  obtain ⟨rfl, rfl, rfl⟩ := hp
  refine V_iload C dL_law_1330 rfl ?_
  refine V_icmpeq_t (tgt := 1337) C dL_law_1332 (by decide) (by rw [hA.1]) ?_
  refine V_goto (tgt := 1408) C dL_law_1337 (by decide) ?_
  refine V_wide (by show 50 + 13 * j + 13 ≤ 50 + 13 * j + 13; omega) (by show 12000 + 900 * j + 900 ≤ 12000 + 900 * j + 900; omega) ?_
  exact V_sb (nx _ _ ad1 F2 _ (ok_key hs) (ok_key hu) hA.2.2 (Nat.le_trans nw_spKey (by omega)) hC2 hM2 ⟨f0, h402⟩) ⟨rfl, rfl, rfl, rfl, rfl, trivial⟩
set_option maxHeartbeats 4000000 in
set_option maxRecDepth 100000 in
theorem law_24 {X : Cxt} {nm : String} {tb : List ExceptionTableEntry} (C : Ok X cL_law 7 ⟨RL, nm, ""⟩ room_1 ret tb) {b L : Nat} {sc : Nat → Int32} (hS : Scr X b L sc) (hL : L ≤ 1536) {j : Nat} (hj : j < 512) (h3 : 3 * j + 3 ≤ L) {s u : St} {ad : Nat → Nat} {F : Fn} {th : Int32} (hs : Kp s) (hu : Kp u) (hm : Sim s u) (hn : zNow s ≤ 200 * j) (hC : CRep (xD X) ad F s) (hM : MRep (xD X) ad F u th) {f0 : Nat → Int64} (h400 : F 400 = some (aJ (xD X) 1 f0)) (nx : NX X b j) : V X (50 + 13 * j) (12000 + 900 * j) 1340 [(0, .ref b), (1, .ref (ad 0)), (2, .ref (ad 300)), (3, .ref (ad 400)), (4, .int (nI (3 * j)))] [] ad F := by
  have hun : zNow u ≤ 190000 := by rw [hm.1.1]; omega
  have hsn : zNow s ≤ 190000 := by omega
  obtain ⟨a, ea⟩ : ∃ a, a = sc (3 * j + 1) := ⟨_, rfl⟩
  obtain ⟨c, ec⟩ : ∃ c, c = sc (3 * j + 2) := ⟨_, rfl⟩
  refine V_aload_n C dL_law_1340 rfl ?_
  refine V_aload_n C dL_law_1341 rfl ?_
  refine V_iload C dL_law_1342 rfl ?_
  refine V_iconst (v := 1) C dL_law_1344 rfl ?_
  refine V_iadd C dL_law_1345 ?_
  refine V_nm (nI_1 (3 * j)) ?_
  refine V_sld C hS dL_law_1346 rfl (by omega) (by omega) ?_
  refine V_nm ea.symm ?_
  refine V_aload_n C dL_law_1347 rfl ?_
  refine V_iload C dL_law_1348 rfl ?_
  refine V_iconst (v := 2) C dL_law_1350 rfl ?_
  refine V_iadd C dL_law_1351 ?_
  refine V_nm (nI_add (3 * j) 2) ?_
  refine V_sld C hS dL_law_1352 rfl (by omega) (by omega) ?_
  refine V_nm ec.symm ?_
  refine V_aload_n C dL_law_1353 rfl ?_
  refine V_invH C dL_law_1354 (w_come s a c f0 hC hs.1 h400 (ok_come hs).1) mh_L_171 rfl (Nat.le_of_ble_eq_true rfl) ⟨Nat.le_of_ble_eq_true rfl, Nat.le_of_ble_eq_true rfl⟩ ⟨(by show 50 + 13 * j + 13 ≤ 601024; omega), (by show 12000 + 900 * j + 900 ≤ 7293033; omega)⟩ (fun _ _ _ h => VT_no h) (fun v ad1 F1 hp => ?_)
  obtain ⟨rfl, hC1, ⟨f1, h401, hf1⟩, hfk, ha0⟩ := hp
  have had := fun c hc => (hfk c hc).1
  have hFk : ∀ c, 300 ≤ c → c ≠ 400 → F1 c = F c := fun c hc hne => (hfk c hc).2 hne
  have hA := sm_come (a := a) (b := c) hm
  rw [show ad 0 = ad1 0 from ha0.symm, show ad 300 = ad1 300 from (had 300 (by decide)).symm, show ad 400 = ad1 400 from (had 400 (by decide)).symm]
  have hM1 := hM.keptK (fun c hc _ => had c hc) hFk
  have hMd := hM1.1
  unfold mObj at hMd
  refine V_istore C dL_law_1357 (by decide) ?_
  refine V_aload_n C dL_law_1359 rfl ?_
  refine V_aload_n C dL_law_1360 rfl ?_
  refine V_iload C dL_law_1361 rfl ?_
  refine V_iconst (v := 1) C dL_law_1363 rfl ?_
  refine V_iadd C dL_law_1364 ?_
  refine V_nm (nI_1 (3 * j)) ?_
  refine V_sld C hS dL_law_1365 rfl (by omega) (by omega) ?_
  refine V_nm ea.symm ?_
  refine V_aload_n C dL_law_1366 rfl ?_
  refine V_iload C dL_law_1367 rfl ?_
  refine V_iconst (v := 2) C dL_law_1369 rfl ?_
  refine V_iadd C dL_law_1370 ?_
  refine V_nm (nI_add (3 * j) 2) ?_
  refine V_sld C hS dL_law_1371 rfl (by omega) (by omega) ?_
  refine V_nm ec.symm ?_
  refine V_invV C dL_law_1372 hMd rfl (m_come u th a c hM1 hu.1 (by rw [hm.1.2.2.2.2.2.2.2.2.2.2.2.2.2.2.1]; exact hm.2.2.2.2.2)) mv_L_173 rfl (Nat.le_of_ble_eq_true rfl) ⟨Nat.le_of_ble_eq_true rfl, Nat.le_of_ble_eq_true rfl⟩ ⟨(by show 50 + 13 * j + 13 + 0 ≤ 601024; omega), (by show 12000 + 900 * j + 900 + 0 ≤ 7293033; omega)⟩ (fun _ _ _ h => VT_no h) (fun v ad1 F2 hp => ?_)
  obtain ⟨rfl, rfl, hM2, hfm⟩ := hp
  have h402 := (hfm 400 (Or.inr (Nat.le_refl _))).2.trans h401
  have hC2 := hC1.keptF (ok_come hs).1 (fun c hc => (hfm c (Or.inl hc)).2)
  have hMd2 := hM2.1
  unfold mObj at hMd2
  refine V_istore C dL_law_1375 (by decide) ?_
  refine V_aload_n C dL_law_1377 rfl ?_
  refine V_invV C dL_law_1378 hMd2 rfl (m_thrown _ _ _ _ _ hM2.1) mv_L_90 rfl (Nat.le_of_ble_eq_true rfl) ⟨Nat.le_of_ble_eq_true rfl, Nat.le_of_ble_eq_true rfl⟩ ⟨(by show 50 + 13 * j + 13 + 0 + 0 ≤ 601024; omega), (by show 12000 + 900 * j + 900 + 0 + 0 ≤ 7293033; omega)⟩ (fun _ _ _ h => VT_no h) (fun v ad2 F3 hp => ?_)
  obtain ⟨rfl, rfl, rfl⟩ := hp
  refine V_iload C dL_law_1381 rfl ?_
  refine V_icmpeq_t (tgt := 1388) C dL_law_1383 (by decide) (by rw [hA.1]) ?_
  refine V_iload C dL_law_1388 rfl ?_
  refine V_ifne (tgt := 1405) C dL_law_1390 (by decide) (fun h5 => ?_) (fun h5 => ?_)
  · refine V_goto (tgt := 1408) C dL_law_1405 (by decide) ?_
    refine V_wide (by show 50 + 13 * j + 13 ≤ 50 + 13 * j + 13; omega) (by show 12000 + 900 * j + 900 ≤ 12000 + 900 * j + 900; omega) ?_
    exact V_sb (nx _ _ ad1 F2 _ (ok_come hs) (ok_come hu) hA.2.2 (Nat.le_trans nw_spCome (by omega)) hC2 hM2 ⟨f1, h402⟩) ⟨rfl, rfl, rfl, rfl, rfl, trivial⟩
  · have h0 : (spCome s a c).1 = 0 := (nI_eq (b := 0) (by have := lt_spCome (s := s) (a := a) (b := c); omega) (by decide)).mp h5
    refine V_aload_n C dL_law_1393 rfl ?_
    refine V_iconst (v := 0) C dL_law_1394 rfl ?_
    refine V_lald C dL_law_1395 h402 (show (0 : Int32) = nI 0 from rfl) (by decide) (by decide) ?_
    refine V_iload C dL_law_1396 rfl ?_
    refine V_i2l C dL_law_1398 rfl ?_
    refine V_lcmp C dL_law_1399 ?_
    refine V_nm (show _ = (0 : Int32) by rw [hf1 h0, hA.2.1]; exact lg_self _) ?_
    refine V_ifeq_t (tgt := 1405) C dL_law_1400 (by decide) rfl ?_
    refine V_goto (tgt := 1408) C dL_law_1405 (by decide) ?_
    refine V_wide (by show 50 + 13 * j + 13 ≤ 50 + 13 * j + 13; omega) (by show 12000 + 900 * j + 900 ≤ 12000 + 900 * j + 900; omega) ?_
    exact V_sb (nx _ _ ad1 F2 _ (ok_come hs) (ok_come hu) hA.2.2 (Nat.le_trans nw_spCome (by omega)) hC2 hM2 ⟨f1, h402⟩) ⟨rfl, rfl, rfl, rfl, rfl, trivial⟩
