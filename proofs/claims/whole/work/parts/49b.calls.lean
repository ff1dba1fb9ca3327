/-! ===== the law, call by call ===== -/
set_option maxHeartbeats 4000000 in
set_option maxRecDepth 100000 in
theorem law_5 {X : Cxt} {nm : String} {tb : List ExceptionTableEntry} (C : Ok X cL_law 7 ⟨RL, nm, ""⟩ room_1 ret tb) {b L : Nat} {sc : Nat → Int32} (hS : Scr X b L sc) (hL : L ≤ 1536) {j : Nat} (hj : j < 512) (h3 : 3 * j + 3 ≤ L) {s u : St} {ad : Nat → Nat} {F : Fn} {th : Int32} (hs : Kp s) (hu : Kp u) (hm : Sim s u) (hn : zNow s ≤ 200 * j) (hC : CRep (xD X) ad F s) (hM : MRep (xD X) ad F u th) {f0 : Nat → Int64} (h400 : F 400 = some (aJ (xD X) 1 f0)) (nx : NX X b j) : V X (50 + 13 * j) (12000 + 900 * j) 303 [(0, .ref b), (1, .ref (ad 0)), (2, .ref (ad 300)), (3, .ref (ad 400)), (4, .int (nI (3 * j)))] [] ad F := by
  have hun : zNow u ≤ 190000 := by rw [hm.1.1]; omega
  have hsn : zNow s ≤ 190000 := by omega
  obtain ⟨a, ea⟩ : ∃ a, a = sc (3 * j + 1) := ⟨_, rfl⟩
  refine V_aload_n C dL_law_303 rfl ?_
  refine V_aload_n C dL_law_304 rfl ?_
  refine V_iload C dL_law_305 rfl ?_
  refine V_iconst (v := 1) C dL_law_307 rfl ?_
  refine V_iadd C dL_law_308 ?_
  refine V_nm (nI_1 (3 * j)) ?_
  refine V_sld C hS dL_law_309 rfl (by omega) (by omega) ?_
  refine V_nm ea.symm ?_
  refine V_aload_n C dL_law_310 rfl ?_
  refine V_invH C dL_law_311 (w_signs s a f0 hC hs.1 h400 (ok_signs hs).1) mh_L_110 rfl (Nat.le_of_ble_eq_true rfl) ⟨Nat.le_of_ble_eq_true rfl, Nat.le_of_ble_eq_true rfl⟩ ⟨(by show 50 + 13 * j + 13 ≤ 601024; omega), (by show 12000 + 900 * j + 900 ≤ 7293033; omega)⟩ (fun _ _ _ h => VT_no h) (fun v ad1 F1 hp => ?_)
  obtain ⟨rfl, hC1, ⟨f1, h401, hf1⟩, hfk, ha0⟩ := hp
  have had := fun c hc => (hfk c hc).1
  have hFk : ∀ c, 300 ≤ c → c ≠ 400 → F1 c = F c := fun c hc hne => (hfk c hc).2 hne
  have hA := sm_signs (a := a) hm
  rw [show ad 0 = ad1 0 from ha0.symm, show ad 300 = ad1 300 from (had 300 (by decide)).symm, show ad 400 = ad1 400 from (had 400 (by decide)).symm]
  have hM1 := hM.keptK (fun c hc _ => had c hc) hFk
  have hMd := hM1.1
  unfold mObj at hMd
  refine V_istore C dL_law_314 (by decide) ?_
  refine V_aload_n C dL_law_316 rfl ?_
  refine V_aload_n C dL_law_317 rfl ?_
  refine V_iload C dL_law_318 rfl ?_
  refine V_iconst (v := 1) C dL_law_320 rfl ?_
  refine V_iadd C dL_law_321 ?_
  refine V_nm (nI_1 (3 * j)) ?_
  refine V_sld C hS dL_law_322 rfl (by omega) (by omega) ?_
  refine V_nm ea.symm ?_
  refine V_invV C dL_law_323 hMd rfl (m_signs u th a hM1 hu.1.2.2.1) mv_L_113 rfl (Nat.le_of_ble_eq_true rfl) ⟨Nat.le_of_ble_eq_true rfl, Nat.le_of_ble_eq_true rfl⟩ ⟨(by show 50 + 13 * j + 13 + 0 ≤ 601024; omega), (by show 12000 + 900 * j + 900 + 0 ≤ 7293033; omega)⟩ (fun _ _ _ h => VT_no h) (fun v ad1 F2 hp => ?_)
  obtain ⟨rfl, rfl, hM2, hfm⟩ := hp
  have h402 := (hfm 400 (Or.inr (Nat.le_refl _))).2.trans h401
  have hC2 := hC1.keptF (ok_signs hs).1 (fun c hc => (hfm c (Or.inl hc)).2)
  have hMd2 := hM2.1
  unfold mObj at hMd2
  refine V_istore C dL_law_326 (by decide) ?_
  refine V_aload_n C dL_law_328 rfl ?_
  refine V_invV C dL_law_329 hMd2 rfl (m_thrown _ _ _ _ _ hM2.1) mv_L_90 rfl (Nat.le_of_ble_eq_true rfl) ⟨Nat.le_of_ble_eq_true rfl, Nat.le_of_ble_eq_true rfl⟩ ⟨(by show 50 + 13 * j + 13 + 0 + 0 ≤ 601024; omega), (by show 12000 + 900 * j + 900 + 0 + 0 ≤ 7293033; omega)⟩ (fun _ _ _ h => VT_no h) (fun v ad2 F3 hp => ?_)
  obtain ⟨rfl, rfl, rfl⟩ := hp
  refine V_iload C dL_law_332 rfl ?_
  refine V_icmpeq_t (tgt := 339) C dL_law_334 (by decide) (by rw [hA.1]) ?_
  refine V_iload C dL_law_339 rfl ?_
  refine V_ifne (tgt := 356) C dL_law_341 (by decide) (fun h5 => ?_) (fun h5 => ?_)
  · refine V_goto (tgt := 1408) C dL_law_356 (by decide) ?_
    refine V_wide (by show 50 + 13 * j + 13 ≤ 50 + 13 * j + 13; omega) (by show 12000 + 900 * j + 900 ≤ 12000 + 900 * j + 900; omega) ?_
    exact V_sb (nx _ _ ad1 F2 _ (ok_signs hs) (ok_signs hu) hA.2.2 (Nat.le_trans nw_spSigns (by omega)) hC2 hM2 ⟨f1, h402⟩) ⟨rfl, rfl, rfl, rfl, rfl, trivial⟩
  · have h0 : (spSigns s a).1 = 0 := (nI_eq (b := 0) (by have := lt_spSigns (s := s) (a := a); omega) (by decide)).mp h5
    refine V_aload_n C dL_law_344 rfl ?_
    refine V_iconst (v := 0) C dL_law_345 rfl ?_
    refine V_lald C dL_law_346 h402 (show (0 : Int32) = nI 0 from rfl) (by decide) (by decide) ?_
    refine V_iload C dL_law_347 rfl ?_
    refine V_i2l C dL_law_349 rfl ?_
    refine V_lcmp C dL_law_350 ?_
    refine V_nm (show _ = (0 : Int32) by rw [hf1 h0, hA.2.1]; exact lg_self _) ?_
    refine V_ifeq_t (tgt := 356) C dL_law_351 (by decide) rfl ?_
    refine V_goto (tgt := 1408) C dL_law_356 (by decide) ?_
    refine V_wide (by show 50 + 13 * j + 13 ≤ 50 + 13 * j + 13; omega) (by show 12000 + 900 * j + 900 ≤ 12000 + 900 * j + 900; omega) ?_
    exact V_sb (nx _ _ ad1 F2 _ (ok_signs hs) (ok_signs hu) hA.2.2 (Nat.le_trans nw_spSigns (by omega)) hC2 hM2 ⟨f1, h402⟩) ⟨rfl, rfl, rfl, rfl, rfl, trivial⟩
set_option maxHeartbeats 4000000 in
set_option maxRecDepth 100000 in
theorem law_6 {X : Cxt} {nm : String} {tb : List ExceptionTableEntry} (C : Ok X cL_law 7 ⟨RL, nm, ""⟩ room_1 ret tb) {b L : Nat} {sc : Nat → Int32} (hS : Scr X b L sc) (hL : L ≤ 1536) {j : Nat} (hj : j < 512) (h3 : 3 * j + 3 ≤ L) {s u : St} {ad : Nat → Nat} {F : Fn} {th : Int32} (hs : Kp s) (hu : Kp u) (hm : Sim s u) (hn : zNow s ≤ 200 * j) (hC : CRep (xD X) ad F s) (hM : MRep (xD X) ad F u th) {f0 : Nat → Int64} (h400 : F 400 = some (aJ (xD X) 1 f0)) (nx : NX X b j) : V X (50 + 13 * j) (12000 + 900 * j) 359 [(0, .ref b), (1, .ref (ad 0)), (2, .ref (ad 300)), (3, .ref (ad 400)), (4, .int (nI (3 * j)))] [] ad F := by
  have hun : zNow u ≤ 190000 := by rw [hm.1.1]; omega
  have hsn : zNow s ≤ 190000 := by omega
  obtain ⟨a, ea⟩ : ∃ a, a = sc (3 * j + 1) := ⟨_, rfl⟩
  refine V_aload_n C dL_law_359 rfl ?_
  refine V_aload_n C dL_law_360 rfl ?_
  refine V_iload C dL_law_361 rfl ?_
  refine V_iconst (v := 1) C dL_law_363 rfl ?_
  refine V_iadd C dL_law_364 ?_
  refine V_nm (nI_1 (3 * j)) ?_
  refine V_sld C hS dL_law_365 rfl (by omega) (by omega) ?_
  refine V_nm ea.symm ?_
  refine V_aload_n C dL_law_366 rfl ?_
  refine V_invH C dL_law_367 (w_octets s a f0 hC hs.1 h400 (ok_octs hs).1) mh_L_114 rfl (Nat.le_of_ble_eq_true rfl) ⟨Nat.le_of_ble_eq_true rfl, Nat.le_of_ble_eq_true rfl⟩ ⟨(by show 50 + 13 * j + 13 ≤ 601024; omega), (by show 12000 + 900 * j + 900 ≤ 7293033; omega)⟩ (fun _ _ _ h => VT_no h) (fun v ad1 F1 hp => ?_)
  obtain ⟨rfl, hC1, ⟨f1, h401, hf1⟩, hfk, ha0⟩ := hp
  have had := fun c hc => (hfk c hc).1
  have hFk : ∀ c, 300 ≤ c → c ≠ 400 → F1 c = F c := fun c hc hne => (hfk c hc).2 hne
  have hA := sm_octs (a := a) hm
  rw [show ad 0 = ad1 0 from ha0.symm, show ad 300 = ad1 300 from (had 300 (by decide)).symm, show ad 400 = ad1 400 from (had 400 (by decide)).symm]
  have hM1 := hM.keptK (fun c hc _ => had c hc) hFk
  have hMd := hM1.1
  unfold mObj at hMd
  refine V_istore C dL_law_370 (by decide) ?_
  refine V_aload_n C dL_law_372 rfl ?_
  refine V_aload_n C dL_law_373 rfl ?_
  refine V_iload C dL_law_374 rfl ?_
  refine V_iconst (v := 1) C dL_law_376 rfl ?_
  refine V_iadd C dL_law_377 ?_
  refine V_nm (nI_1 (3 * j)) ?_
  refine V_sld C hS dL_law_378 rfl (by omega) (by omega) ?_
  refine V_nm ea.symm ?_
  refine V_invV C dL_law_379 hMd rfl (m_octets u th a hM1 hu.1.2.2.1) mv_L_116 rfl (Nat.le_of_ble_eq_true rfl) ⟨Nat.le_of_ble_eq_true rfl, Nat.le_of_ble_eq_true rfl⟩ ⟨(by show 50 + 13 * j + 13 + 0 ≤ 601024; omega), (by show 12000 + 900 * j + 900 + 0 ≤ 7293033; omega)⟩ (fun _ _ _ h => VT_no h) (fun v ad1 F2 hp => ?_)
  obtain ⟨rfl, rfl, hM2, hfm⟩ := hp
  have h402 := (hfm 400 (Or.inr (Nat.le_refl _))).2.trans h401
  have hC2 := hC1.keptF (ok_octs hs).1 (fun c hc => (hfm c (Or.inl hc)).2)
  have hMd2 := hM2.1
  unfold mObj at hMd2
  refine V_istore C dL_law_382 (by decide) ?_
  refine V_aload_n C dL_law_384 rfl ?_
  refine V_invV C dL_law_385 hMd2 rfl (m_thrown _ _ _ _ _ hM2.1) mv_L_90 rfl (Nat.le_of_ble_eq_true rfl) ⟨Nat.le_of_ble_eq_true rfl, Nat.le_of_ble_eq_true rfl⟩ ⟨(by show 50 + 13 * j + 13 + 0 + 0 ≤ 601024; omega), (by show 12000 + 900 * j + 900 + 0 + 0 ≤ 7293033; omega)⟩ (fun _ _ _ h => VT_no h) (fun v ad2 F3 hp => ?_)
  obtain ⟨rfl, rfl, rfl⟩ := hp
  refine V_iload C dL_law_388 rfl ?_
  refine V_icmpeq_t (tgt := 395) C dL_law_390 (by decide) (by rw [hA.1]) ?_
  refine V_iload C dL_law_395 rfl ?_
  refine V_ifne (tgt := 412) C dL_law_397 (by decide) (fun h5 => ?_) (fun h5 => ?_)
  · refine V_goto (tgt := 1408) C dL_law_412 (by decide) ?_
    refine V_wide (by show 50 + 13 * j + 13 ≤ 50 + 13 * j + 13; omega) (by show 12000 + 900 * j + 900 ≤ 12000 + 900 * j + 900; omega) ?_
    exact V_sb (nx _ _ ad1 F2 _ (ok_octs hs) (ok_octs hu) hA.2.2 (Nat.le_trans nw_spOcts (by omega)) hC2 hM2 ⟨f1, h402⟩) ⟨rfl, rfl, rfl, rfl, rfl, trivial⟩
  · have h0 : (spOcts s a).1 = 0 := (nI_eq (b := 0) (by have := lt_spOcts (s := s) (a := a); omega) (by decide)).mp h5
    refine V_aload_n C dL_law_400 rfl ?_
    refine V_iconst (v := 0) C dL_law_401 rfl ?_
    refine V_lald C dL_law_402 h402 (show (0 : Int32) = nI 0 from rfl) (by decide) (by decide) ?_
    refine V_iload C dL_law_403 rfl ?_
    refine V_i2l C dL_law_405 rfl ?_
    refine V_lcmp C dL_law_406 ?_
    refine V_nm (show _ = (0 : Int32) by rw [hf1 h0, hA.2.1]; exact lg_self _) ?_
    refine V_ifeq_t (tgt := 412) C dL_law_407 (by decide) rfl ?_
    refine V_goto (tgt := 1408) C dL_law_412 (by decide) ?_
    refine V_wide (by show 50 + 13 * j + 13 ≤ 50 + 13 * j + 13; omega) (by show 12000 + 900 * j + 900 ≤ 12000 + 900 * j + 900; omega) ?_
    exact V_sb (nx _ _ ad1 F2 _ (ok_octs hs) (ok_octs hu) hA.2.2 (Nat.le_trans nw_spOcts (by omega)) hC2 hM2 ⟨f1, h402⟩) ⟨rfl, rfl, rfl, rfl, rfl, trivial⟩
set_option maxHeartbeats 4000000 in
set_option maxRecDepth 100000 in
theorem law_7 {X : Cxt} {nm : String} {tb : List ExceptionTableEntry} (C : Ok X cL_law 7 ⟨RL, nm, ""⟩ room_1 ret tb) {b L : Nat} {sc : Nat → Int32} (hS : Scr X b L sc) (hL : L ≤ 1536) {j : Nat} (hj : j < 512) (h3 : 3 * j + 3 ≤ L) {s u : St} {ad : Nat → Nat} {F : Fn} {th : Int32} (hs : Kp s) (hu : Kp u) (hm : Sim s u) (hn : zNow s ≤ 200 * j) (hC : CRep (xD X) ad F s) (hM : MRep (xD X) ad F u th) {f0 : Nat → Int64} (h400 : F 400 = some (aJ (xD X) 1 f0)) (nx : NX X b j) : V X (50 + 13 * j) (12000 + 900 * j) 415 [(0, .ref b), (1, .ref (ad 0)), (2, .ref (ad 300)), (3, .ref (ad 400)), (4, .int (nI (3 * j)))] [] ad F := by
  have hun : zNow u ≤ 190000 := by rw [hm.1.1]; omega
  have hsn : zNow s ≤ 190000 := by omega
  obtain ⟨a, ea⟩ : ∃ a, a = sc (3 * j + 1) := ⟨_, rfl⟩
  obtain ⟨c, ec⟩ : ∃ c, c = sc (3 * j + 2) := ⟨_, rfl⟩
  refine V_aload_n C dL_law_415 rfl ?_
  refine V_aload_n C dL_law_416 rfl ?_
  refine V_iload C dL_law_417 rfl ?_
  refine V_iconst (v := 1) C dL_law_419 rfl ?_
  refine V_iadd C dL_law_420 ?_
  refine V_nm (nI_1 (3 * j)) ?_
  refine V_sld C hS dL_law_421 rfl (by omega) (by omega) ?_
  refine V_nm ea.symm ?_
  refine V_aload_n C dL_law_422 rfl ?_
  refine V_iload C dL_law_423 rfl ?_
  refine V_iconst (v := 2) C dL_law_425 rfl ?_
  refine V_iadd C dL_law_426 ?_
  refine V_nm (nI_add (3 * j) 2) ?_
  refine V_sld C hS dL_law_427 rfl (by omega) (by omega) ?_
  refine V_nm ec.symm ?_
  refine V_aload_n C dL_law_428 rfl ?_
  refine V_invH C dL_law_429 (w_octet s a c f0 hC hs.1 h400 (ok_oct hs).1) mh_L_117 rfl (Nat.le_of_ble_eq_true rfl) ⟨Nat.le_of_ble_eq_true rfl, Nat.le_of_ble_eq_true rfl⟩ ⟨(by show 50 + 13 * j + 13 ≤ 601024; omega), (by show 12000 + 900 * j + 900 ≤ 7293033; omega)⟩ (fun _ _ _ h => VT_no h) (fun v ad1 F1 hp => ?_)
  obtain ⟨rfl, hC1, ⟨f1, h401, hf1⟩, hfk, ha0⟩ := hp
  have had := fun c hc => (hfk c hc).1
  have hFk : ∀ c, 300 ≤ c → c ≠ 400 → F1 c = F c := fun c hc hne => (hfk c hc).2 hne
  have hA := sm_oct (a := a) (b := c) hm
  rw [show ad 0 = ad1 0 from ha0.symm, show ad 300 = ad1 300 from (had 300 (by decide)).symm, show ad 400 = ad1 400 from (had 400 (by decide)).symm]
  have hM1 := hM.keptK (fun c hc _ => had c hc) hFk
  have hMd := hM1.1
  unfold mObj at hMd
  refine V_istore C dL_law_432 (by decide) ?_
  refine V_aload_n C dL_law_434 rfl ?_
  refine V_aload_n C dL_law_435 rfl ?_
  refine V_iload C dL_law_436 rfl ?_
  refine V_iconst (v := 1) C dL_law_438 rfl ?_
  refine V_iadd C dL_law_439 ?_
  refine V_nm (nI_1 (3 * j)) ?_
  refine V_sld C hS dL_law_440 rfl (by omega) (by omega) ?_
  refine V_nm ea.symm ?_
  refine V_aload_n C dL_law_441 rfl ?_
  refine V_iload C dL_law_442 rfl ?_
  refine V_iconst (v := 2) C dL_law_444 rfl ?_
  refine V_iadd C dL_law_445 ?_
  refine V_nm (nI_add (3 * j) 2) ?_
  refine V_sld C hS dL_law_446 rfl (by omega) (by omega) ?_
  refine V_nm ec.symm ?_
  refine V_invV C dL_law_447 hMd rfl (m_octet u th a c hM1 hu.1.2.2.1) mv_L_119 rfl (Nat.le_of_ble_eq_true rfl) ⟨Nat.le_of_ble_eq_true rfl, Nat.le_of_ble_eq_true rfl⟩ ⟨(by show 50 + 13 * j + 13 + 0 ≤ 601024; omega), (by show 12000 + 900 * j + 900 + 0 ≤ 7293033; omega)⟩ (fun _ _ _ h => VT_no h) (fun v ad1 F2 hp => ?_)
  obtain ⟨rfl, rfl, hM2, hfm⟩ := hp
  have h402 := (hfm 400 (Or.inr (Nat.le_refl _))).2.trans h401
  have hC2 := hC1.keptF (ok_oct hs).1 (fun c hc => (hfm c (Or.inl hc)).2)
  have hMd2 := hM2.1
  unfold mObj at hMd2
  refine V_istore C dL_law_450 (by decide) ?_
  refine V_aload_n C dL_law_452 rfl ?_
  refine V_invV C dL_law_453 hMd2 rfl (m_thrown _ _ _ _ _ hM2.1) mv_L_90 rfl (Nat.le_of_ble_eq_true rfl) ⟨Nat.le_of_ble_eq_true rfl, Nat.le_of_ble_eq_true rfl⟩ ⟨(by show 50 + 13 * j + 13 + 0 + 0 ≤ 601024; omega), (by show 12000 + 900 * j + 900 + 0 + 0 ≤ 7293033; omega)⟩ (fun _ _ _ h => VT_no h) (fun v ad2 F3 hp => ?_)
  obtain ⟨rfl, rfl, rfl⟩ := hp
  refine V_iload C dL_law_456 rfl ?_
  refine V_icmpeq_t (tgt := 463) C dL_law_458 (by decide) (by rw [hA.1]) ?_
  refine V_iload C dL_law_463 rfl ?_
  refine V_ifne (tgt := 480) C dL_law_465 (by decide) (fun h5 => ?_) (fun h5 => ?_)
  · refine V_goto (tgt := 1408) C dL_law_480 (by decide) ?_
    refine V_wide (by show 50 + 13 * j + 13 ≤ 50 + 13 * j + 13; omega) (by show 12000 + 900 * j + 900 ≤ 12000 + 900 * j + 900; omega) ?_
    exact V_sb (nx _ _ ad1 F2 _ (ok_oct hs) (ok_oct hu) hA.2.2 (Nat.le_trans nw_spOct (by omega)) hC2 hM2 ⟨f1, h402⟩) ⟨rfl, rfl, rfl, rfl, rfl, trivial⟩
  · have h0 : (spOct s a c).1 = 0 := (nI_eq (b := 0) (by have := lt_spOct (s := s) (a := a) (b := c); omega) (by decide)).mp h5
    refine V_aload_n C dL_law_468 rfl ?_
    refine V_iconst (v := 0) C dL_law_469 rfl ?_
    refine V_lald C dL_law_470 h402 (show (0 : Int32) = nI 0 from rfl) (by decide) (by decide) ?_
    refine V_iload C dL_law_471 rfl ?_
    refine V_i2l C dL_law_473 rfl ?_
    refine V_lcmp C dL_law_474 ?_
    refine V_nm (show _ = (0 : Int32) by rw [hf1 h0, hA.2.1]; exact lg_self _) ?_
    refine V_ifeq_t (tgt := 480) C dL_law_475 (by decide) rfl ?_
    refine V_goto (tgt := 1408) C dL_law_480 (by decide) ?_
    refine V_wide (by show 50 + 13 * j + 13 ≤ 50 + 13 * j + 13; omega) (by show 12000 + 900 * j + 900 ≤ 12000 + 900 * j + 900; omega) ?_
    exact V_sb (nx _ _ ad1 F2 _ (ok_oct hs) (ok_oct hu) hA.2.2 (Nat.le_trans nw_spOct (by omega)) hC2 hM2 ⟨f1, h402⟩) ⟨rfl, rfl, rfl, rfl, rfl, trivial⟩
set_option maxHeartbeats 4000000 in
set_option maxRecDepth 100000 in
theorem law_8 {X : Cxt} {nm : String} {tb : List ExceptionTableEntry} (C : Ok X cL_law 7 ⟨RL, nm, ""⟩ room_1 ret tb) {b L : Nat} {sc : Nat → Int32} (hS : Scr X b L sc) (hL : L ≤ 1536) {j : Nat} (hj : j < 512) (h3 : 3 * j + 3 ≤ L) {s u : St} {ad : Nat → Nat} {F : Fn} {th : Int32} (hs : Kp s) (hu : Kp u) (hm : Sim s u) (hn : zNow s ≤ 200 * j) (hC : CRep (xD X) ad F s) (hM : MRep (xD X) ad F u th) {f0 : Nat → Int64} (h400 : F 400 = some (aJ (xD X) 1 f0)) (nx : NX X b j) : V X (50 + 13 * j) (12000 + 900 * j) 483 [(0, .ref b), (1, .ref (ad 0)), (2, .ref (ad 300)), (3, .ref (ad 400)), (4, .int (nI (3 * j)))] [] ad F := by
  have hun : zNow u ≤ 190000 := by rw [hm.1.1]; omega
  have hsn : zNow s ≤ 190000 := by omega
  obtain ⟨a, ea⟩ : ∃ a, a = sc (3 * j + 1) := ⟨_, rfl⟩
  obtain ⟨c, ec⟩ : ∃ c, c = sc (3 * j + 2) := ⟨_, rfl⟩
  refine V_aload_n C dL_law_483 rfl ?_
  refine V_aload_n C dL_law_484 rfl ?_
  refine V_iload C dL_law_485 rfl ?_
  refine V_iconst (v := 1) C dL_law_487 rfl ?_
  refine V_iadd C dL_law_488 ?_
  refine V_nm (nI_1 (3 * j)) ?_
  refine V_sld C hS dL_law_489 rfl (by omega) (by omega) ?_
  refine V_nm ea.symm ?_
  refine V_aload_n C dL_law_490 rfl ?_
  refine V_iload C dL_law_491 rfl ?_
  refine V_iconst (v := 2) C dL_law_493 rfl ?_
  refine V_iadd C dL_law_494 ?_
  refine V_nm (nI_add (3 * j) 2) ?_
  refine V_sld C hS dL_law_495 rfl (by omega) (by omega) ?_
  refine V_nm ec.symm ?_
  refine V_aload_n C dL_law_496 rfl ?_
  refine V_invH C dL_law_497 (w_submit s a c f0 hC hs.1 h400 (ok_sub hs).1) mh_L_120 rfl (Nat.le_of_ble_eq_true rfl) ⟨Nat.le_of_ble_eq_true rfl, Nat.le_of_ble_eq_true rfl⟩ ⟨(by show 50 + 13 * j + 13 ≤ 601024; omega), (by show 12000 + 900 * j + 900 ≤ 7293033; omega)⟩ (fun _ _ _ h => VT_no h) (fun v ad1 F1 hp => ?_)
  obtain ⟨rfl, hC1, ⟨f1, h401, hf1⟩, hfk, ha0⟩ := hp
  have had := fun c hc => (hfk c hc).1
  have hFk : ∀ c, 300 ≤ c → c ≠ 400 → F1 c = F c := fun c hc hne => (hfk c hc).2 hne
  have hA := sm_sub (a := a) (b := c) hm hs.1
  rw [show ad 0 = ad1 0 from ha0.symm, show ad 300 = ad1 300 from (had 300 (by decide)).symm, show ad 400 = ad1 400 from (had 400 (by decide)).symm]
  have hM1 := hM.keptK (fun c hc _ => had c hc) hFk
  have hMd := hM1.1
  unfold mObj at hMd
  refine V_istore C dL_law_500 (by decide) ?_
  refine V_aload_n C dL_law_502 rfl ?_
  refine V_aload_n C dL_law_503 rfl ?_
  refine V_iload C dL_law_504 rfl ?_
  refine V_iconst (v := 1) C dL_law_506 rfl ?_
  refine V_iadd C dL_law_507 ?_
  refine V_nm (nI_1 (3 * j)) ?_
  refine V_sld C hS dL_law_508 rfl (by omega) (by omega) ?_
  refine V_nm ea.symm ?_
  refine V_aload_n C dL_law_509 rfl ?_
  refine V_iload C dL_law_510 rfl ?_
  refine V_iconst (v := 2) C dL_law_512 rfl ?_
  refine V_iadd C dL_law_513 ?_
  refine V_nm (nI_add (3 * j) 2) ?_
  refine V_sld C hS dL_law_514 rfl (by omega) (by omega) ?_
  refine V_nm ec.symm ?_
  refine V_invV C dL_law_515 hMd rfl (m_submit u th a c hM1 hu.1) mv_L_122 rfl (Nat.le_of_ble_eq_true rfl) ⟨Nat.le_of_ble_eq_true rfl, Nat.le_of_ble_eq_true rfl⟩ ⟨(by show 50 + 13 * j + 13 + 0 ≤ 601024; omega), (by show 12000 + 900 * j + 900 + 0 ≤ 7293033; omega)⟩ (fun _ _ _ h => VT_no h) (fun v ad1 F2 hp => ?_)
  obtain ⟨rfl, rfl, hM2, hfm⟩ := hp
  have h402 := (hfm 400 (Or.inr (Nat.le_refl _))).2.trans h401
  have hC2 := hC1.keptF (ok_sub hs).1 (fun c hc => (hfm c (Or.inl hc)).2)
  have hMd2 := hM2.1
  unfold mObj at hMd2
  refine V_istore C dL_law_518 (by decide) ?_
  refine V_aload_n C dL_law_520 rfl ?_
  refine V_invV C dL_law_521 hMd2 rfl (m_thrown _ _ _ _ _ hM2.1) mv_L_90 rfl (Nat.le_of_ble_eq_true rfl) ⟨Nat.le_of_ble_eq_true rfl, Nat.le_of_ble_eq_true rfl⟩ ⟨(by show 50 + 13 * j + 13 + 0 + 0 ≤ 601024; omega), (by show 12000 + 900 * j + 900 + 0 + 0 ≤ 7293033; omega)⟩ (fun _ _ _ h => VT_no h) (fun v ad2 F3 hp => ?_)
  obtain ⟨rfl, rfl, rfl⟩ := hp
  refine V_iload C dL_law_524 rfl ?_
  refine V_icmpeq_t (tgt := 531) C dL_law_526 (by decide) (by rw [hA.1]) ?_
  refine V_iload C dL_law_531 rfl ?_
  refine V_ifne (tgt := 548) C dL_law_533 (by decide) (fun h5 => ?_) (fun h5 => ?_)
  · refine V_goto (tgt := 1408) C dL_law_548 (by decide) ?_
    refine V_wide (by show 50 + 13 * j + 13 ≤ 50 + 13 * j + 13; omega) (by show 12000 + 900 * j + 900 ≤ 12000 + 900 * j + 900; omega) ?_
    exact V_sb (nx _ _ ad1 F2 _ (ok_sub hs) (ok_sub hu) hA.2.2 (Nat.le_trans nw_spSub (by omega)) hC2 hM2 ⟨f1, h402⟩) ⟨rfl, rfl, rfl, rfl, rfl, trivial⟩
  · have h0 : (spSub s a c).1 = 0 := (nI_eq (b := 0) (by have := lt_spSub (s := s) (a := a) (b := c); omega) (by decide)).mp h5
    refine V_aload_n C dL_law_536 rfl ?_
    refine V_iconst (v := 0) C dL_law_537 rfl ?_
    refine V_lald C dL_law_538 h402 (show (0 : Int32) = nI 0 from rfl) (by decide) (by decide) ?_
    refine V_iload C dL_law_539 rfl ?_
    refine V_i2l C dL_law_541 rfl ?_
    refine V_lcmp C dL_law_542 ?_
    refine V_nm (show _ = (0 : Int32) by rw [hf1 h0, hA.2.1]; exact lg_self _) ?_
    refine V_ifeq_t (tgt := 548) C dL_law_543 (by decide) rfl ?_
    refine V_goto (tgt := 1408) C dL_law_548 (by decide) ?_
    refine V_wide (by show 50 + 13 * j + 13 ≤ 50 + 13 * j + 13; omega) (by show 12000 + 900 * j + 900 ≤ 12000 + 900 * j + 900; omega) ?_
    exact V_sb (nx _ _ ad1 F2 _ (ok_sub hs) (ok_sub hu) hA.2.2 (Nat.le_trans nw_spSub (by omega)) hC2 hM2 ⟨f1, h402⟩) ⟨rfl, rfl, rfl, rfl, rfl, trivial⟩
