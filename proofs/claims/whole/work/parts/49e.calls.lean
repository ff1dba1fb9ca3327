/-! ===== the law, call by call ===== -/
set_option maxHeartbeats 4000000 in
set_option maxRecDepth 100000 in
theorem law_17 {X : Cxt} {nm : String} {tb : List ExceptionTableEntry} (C : Ok X cL_law 7 ⟨RL, nm, ""⟩ room_1 ret tb) {b L : Nat} {sc : Nat → Int32} (hS : Scr X b L sc) (hL : L ≤ 1536) {j : Nat} (hj : j < 512) (h3 : 3 * j + 3 ≤ L) {s u : St} {ad : Nat → Nat} {F : Fn} {th : Int32} (hs : Kp s) (hu : Kp u) (hm : Sim s u) (hn : zNow s ≤ 200 * j) (hC : CRep (xD X) ad F s) (hM : MRep (xD X) ad F u th) {f0 : Nat → Int64} (h400 : F 400 = some (aJ (xD X) 1 f0)) (nx : NX X b j) : V X (50 + 13 * j) (12000 + 900 * j) 932 [(0, .ref b), (1, .ref (ad 0)), (2, .ref (ad 300)), (3, .ref (ad 400)), (4, .int (nI (3 * j)))] [] ad F := by
  have hun : zNow u ≤ 190000 := by rw [hm.1.1]; omega
  have hsn : zNow s ≤ 190000 := by omega
  obtain ⟨a, ea⟩ : ∃ a, a = sc (3 * j + 1) := ⟨_, rfl⟩
  obtain ⟨c, ec⟩ : ∃ c, c = sc (3 * j + 2) := ⟨_, rfl⟩
  refine V_aload_n C dL_law_932 rfl ?_
  refine V_aload_n C dL_law_933 rfl ?_
  refine V_iload C dL_law_934 rfl ?_
  refine V_iconst (v := 1) C dL_law_936 rfl ?_
  refine V_iadd C dL_law_937 ?_
  refine V_nm (nI_1 (3 * j)) ?_
  refine V_sld C hS dL_law_938 rfl (by omega) (by omega) ?_
  refine V_nm ea.symm ?_
  refine V_aload_n C dL_law_939 rfl ?_
  refine V_iload C dL_law_940 rfl ?_
  refine V_iconst (v := 2) C dL_law_942 rfl ?_
  refine V_iadd C dL_law_943 ?_
  refine V_nm (nI_add (3 * j) 2) ?_
  refine V_sld C hS dL_law_944 rfl (by omega) (by omega) ?_
  refine V_nm ec.symm ?_
  refine V_aload_n C dL_law_945 rfl ?_
  refine V_invH C dL_law_946 (w_setWindow s a c f0 hC hs.1 h400 (ok_setW hs).1) mh_L_149 rfl (Nat.le_of_ble_eq_true rfl) ⟨Nat.le_of_ble_eq_true rfl, Nat.le_of_ble_eq_true rfl⟩ ⟨(by show 50 + 13 * j + 13 ≤ 601024; omega), (by show 12000 + 900 * j + 900 ≤ 7293033; omega)⟩ (fun _ _ _ h => VT_no h) (fun v ad1 F1 hp => ?_)
  obtain ⟨rfl, hC1, ⟨f1, h401, hf1⟩, hfk, ha0⟩ := hp
  have had := fun c hc => (hfk c hc).1
  have hFk : ∀ c, 300 ≤ c → c ≠ 400 → F1 c = F c := fun c hc hne => (hfk c hc).2 hne
  have hA := sm_setW (a := a) (b := c) hm
  rw [show ad 0 = ad1 0 from ha0.symm, show ad 300 = ad1 300 from (had 300 (by decide)).symm, show ad 400 = ad1 400 from (had 400 (by decide)).symm]
  have hM1 := hM.keptK (fun c hc _ => had c hc) hFk
  have hMd := hM1.1
  unfold mObj at hMd
  refine V_istore C dL_law_949 (by decide) ?_
  refine V_aload_n C dL_law_951 rfl ?_
  refine V_aload_n C dL_law_952 rfl ?_
  refine V_iload C dL_law_953 rfl ?_
  refine V_iconst (v := 1) C dL_law_955 rfl ?_
  refine V_iadd C dL_law_956 ?_
  refine V_nm (nI_1 (3 * j)) ?_
  refine V_sld C hS dL_law_957 rfl (by omega) (by omega) ?_
  refine V_nm ea.symm ?_
  refine V_aload_n C dL_law_958 rfl ?_
  refine V_iload C dL_law_959 rfl ?_
  refine V_iconst (v := 2) C dL_law_961 rfl ?_
  refine V_iadd C dL_law_962 ?_
  refine V_nm (nI_add (3 * j) 2) ?_
  refine V_sld C hS dL_law_963 rfl (by omega) (by omega) ?_
  refine V_nm ec.symm ?_
  refine V_invV C dL_law_964 hMd rfl (m_setWindow u th a c hM1 hu.1) mv_L_151 rfl (Nat.le_of_ble_eq_true rfl) ⟨Nat.le_of_ble_eq_true rfl, Nat.le_of_ble_eq_true rfl⟩ ⟨(by show 50 + 13 * j + 13 + 0 ≤ 601024; omega), (by show 12000 + 900 * j + 900 + 0 ≤ 7293033; omega)⟩ (fun _ _ _ h => VT_no h) (fun v ad1 F2 hp => ?_)
  obtain ⟨rfl, rfl, hM2, hfm⟩ := hp
  have h402 := (hfm 400 (Or.inr (Nat.le_refl _))).2.trans h401
  have hC2 := hC1.keptF (ok_setW hs).1 (fun c hc => (hfm c (Or.inl hc)).2)
  have hMd2 := hM2.1
  unfold mObj at hMd2
  refine V_istore C dL_law_967 (by decide) ?_
  refine V_aload_n C dL_law_969 rfl ?_
  refine V_invV C dL_law_970 hMd2 rfl (m_thrown _ _ _ _ _ hM2.1) mv_L_90 rfl (Nat.le_of_ble_eq_true rfl) ⟨Nat.le_of_ble_eq_true rfl, Nat.le_of_ble_eq_true rfl⟩ ⟨(by show 50 + 13 * j + 13 + 0 + 0 ≤ 601024; omega), (by show 12000 + 900 * j + 900 + 0 + 0 ≤ 7293033; omega)⟩ (fun _ _ _ h => VT_no h) (fun v ad2 F3 hp => ?_)
  obtain ⟨rfl, rfl, rfl⟩ := hp
  refine V_iload C dL_law_973 rfl ?_
  refine V_icmpeq_t (tgt := 980) C dL_law_975 (by decide) (by rw [hA.1]) ?_
  refine V_iload C dL_law_980 rfl ?_
  refine V_ifne (tgt := 997) C dL_law_982 (by decide) (fun h5 => ?_) (fun h5 => ?_)
  · refine V_goto (tgt := 1408) C dL_law_997 (by decide) ?_
    refine V_wide (by show 50 + 13 * j + 13 ≤ 50 + 13 * j + 13; omega) (by show 12000 + 900 * j + 900 ≤ 12000 + 900 * j + 900; omega) ?_
    exact V_sb (nx _ _ ad1 F2 _ (ok_setW hs) (ok_setW hu) hA.2.2 (Nat.le_trans nw_spSetW (by omega)) hC2 hM2 ⟨f1, h402⟩) ⟨rfl, rfl, rfl, rfl, rfl, trivial⟩
  · have h0 : (spSetW s a c).1 = 0 := (nI_eq (b := 0) (by have := lt_spSetW (s := s) (a := a) (b := c); omega) (by decide)).mp h5
    refine V_aload_n C dL_law_985 rfl ?_
    refine V_iconst (v := 0) C dL_law_986 rfl ?_
    refine V_lald C dL_law_987 h402 (show (0 : Int32) = nI 0 from rfl) (by decide) (by decide) ?_
    refine V_iload C dL_law_988 rfl ?_
    refine V_i2l C dL_law_990 rfl ?_
    refine V_lcmp C dL_law_991 ?_
    refine V_nm (show _ = (0 : Int32) by rw [hf1 h0, hA.2.1]; exact lg_self _) ?_
    refine V_ifeq_t (tgt := 997) C dL_law_992 (by decide) rfl ?_
    refine V_goto (tgt := 1408) C dL_law_997 (by decide) ?_
    refine V_wide (by show 50 + 13 * j + 13 ≤ 50 + 13 * j + 13; omega) (by show 12000 + 900 * j + 900 ≤ 12000 + 900 * j + 900; omega) ?_
    exact V_sb (nx _ _ ad1 F2 _ (ok_setW hs) (ok_setW hu) hA.2.2 (Nat.le_trans nw_spSetW (by omega)) hC2 hM2 ⟨f1, h402⟩) ⟨rfl, rfl, rfl, rfl, rfl, trivial⟩
set_option maxHeartbeats 4000000 in
set_option maxRecDepth 100000 in
theorem law_18 {X : Cxt} {nm : String} {tb : List ExceptionTableEntry} (C : Ok X cL_law 7 ⟨RL, nm, ""⟩ room_1 ret tb) {b L : Nat} {sc : Nat → Int32} (hS : Scr X b L sc) (hL : L ≤ 1536) {j : Nat} (hj : j < 512) (h3 : 3 * j + 3 ≤ L) {s u : St} {ad : Nat → Nat} {F : Fn} {th : Int32} (hs : Kp s) (hu : Kp u) (hm : Sim s u) (hn : zNow s ≤ 200 * j) (hC : CRep (xD X) ad F s) (hM : MRep (xD X) ad F u th) {f0 : Nat → Int64} (h400 : F 400 = some (aJ (xD X) 1 f0)) (nx : NX X b j) : V X (50 + 13 * j) (12000 + 900 * j) 1000 [(0, .ref b), (1, .ref (ad 0)), (2, .ref (ad 300)), (3, .ref (ad 400)), (4, .int (nI (3 * j)))] [] ad F := by
  have hun : zNow u ≤ 190000 := by rw [hm.1.1]; omega
  have hsn : zNow s ≤ 190000 := by omega
  obtain ⟨a, ea⟩ : ∃ a, a = sc (3 * j + 1) := ⟨_, rfl⟩
  refine V_aload_n C dL_law_1000 rfl ?_
  refine V_aload_n C dL_law_1001 rfl ?_
  refine V_iload C dL_law_1002 rfl ?_
  refine V_iconst (v := 1) C dL_law_1004 rfl ?_
  refine V_iadd C dL_law_1005 ?_
  refine V_nm (nI_1 (3 * j)) ?_
  refine V_sld C hS dL_law_1006 rfl (by omega) (by omega) ?_
  refine V_nm ea.symm ?_
  refine V_aload_n C dL_law_1007 rfl ?_
  refine V_invH C dL_law_1008 (w_queued s a f0 hC hs.1 h400 (ok_qd hs).1) mh_L_152 rfl (Nat.le_of_ble_eq_true rfl) ⟨Nat.le_of_ble_eq_true rfl, Nat.le_of_ble_eq_true rfl⟩ ⟨(by show 50 + 13 * j + 13 ≤ 601024; omega), (by show 12000 + 900 * j + 900 ≤ 7293033; omega)⟩ (fun _ _ _ h => VT_no h) (fun v ad1 F1 hp => ?_)
  obtain ⟨rfl, hC1, ⟨f1, h401, hf1⟩, hfk, ha0⟩ := hp
  have had := fun c hc => (hfk c hc).1
  have hFk : ∀ c, 300 ≤ c → c ≠ 400 → F1 c = F c := fun c hc hne => (hfk c hc).2 hne
  have hA := sm_qd (a := a) hm
  rw [show ad 0 = ad1 0 from ha0.symm, show ad 300 = ad1 300 from (had 300 (by decide)).symm, show ad 400 = ad1 400 from (had 400 (by decide)).symm]
  have hM1 := hM.keptK (fun c hc _ => had c hc) hFk
  have hMd := hM1.1
  unfold mObj at hMd
  refine V_istore C dL_law_1011 (by decide) ?_
  refine V_aload_n C dL_law_1013 rfl ?_
  refine V_aload_n C dL_law_1014 rfl ?_
  refine V_iload C dL_law_1015 rfl ?_
  refine V_iconst (v := 1) C dL_law_1017 rfl ?_
  refine V_iadd C dL_law_1018 ?_
  refine V_nm (nI_1 (3 * j)) ?_
  refine V_sld C hS dL_law_1019 rfl (by omega) (by omega) ?_
  refine V_nm ea.symm ?_
  refine V_invV C dL_law_1020 hMd rfl (m_queued u th a hM1) mv_L_154 rfl (Nat.le_of_ble_eq_true rfl) ⟨Nat.le_of_ble_eq_true rfl, Nat.le_of_ble_eq_true rfl⟩ ⟨(by show 50 + 13 * j + 13 + 0 ≤ 601024; omega), (by show 12000 + 900 * j + 900 + 0 ≤ 7293033; omega)⟩ (fun _ _ _ h => VT_no h) (fun v ad1 F2 hp => ?_)
  obtain ⟨rfl, rfl, hM2, hfm⟩ := hp
  have h402 := (hfm 400 (Or.inr (Nat.le_refl _))).2.trans h401
  have hC2 := hC1.keptF (ok_qd hs).1 (fun c hc => (hfm c (Or.inl hc)).2)
  have hMd2 := hM2.1
  unfold mObj at hMd2
  refine V_istore C dL_law_1023 (by decide) ?_
  refine V_aload_n C dL_law_1025 rfl ?_
  refine V_invV C dL_law_1026 hMd2 rfl (m_thrown _ _ _ _ _ hM2.1) mv_L_90 rfl (Nat.le_of_ble_eq_true rfl) ⟨Nat.le_of_ble_eq_true rfl, Nat.le_of_ble_eq_true rfl⟩ ⟨(by show 50 + 13 * j + 13 + 0 + 0 ≤ 601024; omega), (by show 12000 + 900 * j + 900 + 0 + 0 ≤ 7293033; omega)⟩ (fun _ _ _ h => VT_no h) (fun v ad2 F3 hp => ?_)
  obtain ⟨rfl, rfl, rfl⟩ := hp
  refine V_iload C dL_law_1029 rfl ?_
  refine V_icmpeq_t (tgt := 1036) C dL_law_1031 (by decide) (by rw [hA.1]) ?_
  refine V_iload C dL_law_1036 rfl ?_
  refine V_ifne (tgt := 1053) C dL_law_1038 (by decide) (fun h5 => ?_) (fun h5 => ?_)
  · refine V_goto (tgt := 1408) C dL_law_1053 (by decide) ?_
    refine V_wide (by show 50 + 13 * j + 13 ≤ 50 + 13 * j + 13; omega) (by show 12000 + 900 * j + 900 ≤ 12000 + 900 * j + 900; omega) ?_
    exact V_sb (nx _ _ ad1 F2 _ (ok_qd hs) (ok_qd hu) hA.2.2 (Nat.le_trans nw_spQd (by omega)) hC2 hM2 ⟨f1, h402⟩) ⟨rfl, rfl, rfl, rfl, rfl, trivial⟩
  · have h0 : (spQd s a).1 = 0 := (nI_eq (b := 0) (by have := lt_spQd (s := s) (a := a); omega) (by decide)).mp h5
    refine V_aload_n C dL_law_1041 rfl ?_
    refine V_iconst (v := 0) C dL_law_1042 rfl ?_
    refine V_lald C dL_law_1043 h402 (show (0 : Int32) = nI 0 from rfl) (by decide) (by decide) ?_
    refine V_iload C dL_law_1044 rfl ?_
    refine V_i2l C dL_law_1046 rfl ?_
    refine V_lcmp C dL_law_1047 ?_
    refine V_nm (show _ = (0 : Int32) by rw [hf1 h0, hA.2.1]; exact lg_self _) ?_
    refine V_ifeq_t (tgt := 1053) C dL_law_1048 (by decide) rfl ?_
    refine V_goto (tgt := 1408) C dL_law_1053 (by decide) ?_
    refine V_wide (by show 50 + 13 * j + 13 ≤ 50 + 13 * j + 13; omega) (by show 12000 + 900 * j + 900 ≤ 12000 + 900 * j + 900; omega) ?_
    exact V_sb (nx _ _ ad1 F2 _ (ok_qd hs) (ok_qd hu) hA.2.2 (Nat.le_trans nw_spQd (by omega)) hC2 hM2 ⟨f1, h402⟩) ⟨rfl, rfl, rfl, rfl, rfl, trivial⟩
set_option maxHeartbeats 4000000 in
set_option maxRecDepth 100000 in
theorem law_19 {X : Cxt} {nm : String} {tb : List ExceptionTableEntry} (C : Ok X cL_law 7 ⟨RL, nm, ""⟩ room_1 ret tb) {b L : Nat} {sc : Nat → Int32} (hS : Scr X b L sc) (hL : L ≤ 1536) {j : Nat} (hj : j < 512) (h3 : 3 * j + 3 ≤ L) {s u : St} {ad : Nat → Nat} {F : Fn} {th : Int32} (hs : Kp s) (hu : Kp u) (hm : Sim s u) (hn : zNow s ≤ 200 * j) (hC : CRep (xD X) ad F s) (hM : MRep (xD X) ad F u th) {f0 : Nat → Int64} (h400 : F 400 = some (aJ (xD X) 1 f0)) (nx : NX X b j) : V X (50 + 13 * j) (12000 + 900 * j) 1056 [(0, .ref b), (1, .ref (ad 0)), (2, .ref (ad 300)), (3, .ref (ad 400)), (4, .int (nI (3 * j)))] [] ad F := by
  have hun : zNow u ≤ 190000 := by rw [hm.1.1]; omega
  have hsn : zNow s ≤ 190000 := by omega
  obtain ⟨a, ea⟩ : ∃ a, a = sc (3 * j + 1) := ⟨_, rfl⟩
  refine V_aload_n C dL_law_1056 rfl ?_
  refine V_aload_n C dL_law_1057 rfl ?_
  refine V_iload C dL_law_1058 rfl ?_
  refine V_iconst (v := 1) C dL_law_1060 rfl ?_
  refine V_iadd C dL_law_1061 ?_
  refine V_nm (nI_1 (3 * j)) ?_
  refine V_sld C hS dL_law_1062 rfl (by omega) (by omega) ?_
  refine V_nm ea.symm ?_
  refine V_aload_n C dL_law_1063 rfl ?_
  refine V_invH C dL_law_1064 (w_underWay s a f0 hC hs.1 h400 (ok_uw hs).1) mh_L_155 rfl (Nat.le_of_ble_eq_true rfl) ⟨Nat.le_of_ble_eq_true rfl, Nat.le_of_ble_eq_true rfl⟩ ⟨(by show 50 + 13 * j + 13 ≤ 601024; omega), (by show 12000 + 900 * j + 900 ≤ 7293033; omega)⟩ (fun _ _ _ h => VT_no h) (fun v ad1 F1 hp => ?_)
  obtain ⟨rfl, hC1, ⟨f1, h401, hf1⟩, hfk, ha0⟩ := hp
  have had := fun c hc => (hfk c hc).1
  have hFk : ∀ c, 300 ≤ c → c ≠ 400 → F1 c = F c := fun c hc hne => (hfk c hc).2 hne
  have hA := sm_uw (a := a) hm
  rw [show ad 0 = ad1 0 from ha0.symm, show ad 300 = ad1 300 from (had 300 (by decide)).symm, show ad 400 = ad1 400 from (had 400 (by decide)).symm]
  have hM1 := hM.keptK (fun c hc _ => had c hc) hFk
  have hMd := hM1.1
  unfold mObj at hMd
  refine V_istore C dL_law_1067 (by decide) ?_
  refine V_aload_n C dL_law_1069 rfl ?_
  refine V_aload_n C dL_law_1070 rfl ?_
  refine V_iload C dL_law_1071 rfl ?_
  refine V_iconst (v := 1) C dL_law_1073 rfl ?_
  refine V_iadd C dL_law_1074 ?_
  refine V_nm (nI_1 (3 * j)) ?_
  refine V_sld C hS dL_law_1075 rfl (by omega) (by omega) ?_
  refine V_nm ea.symm ?_
  refine V_invV C dL_law_1076 hMd rfl (m_underWay u th a hM1) mv_L_157 rfl (Nat.le_of_ble_eq_true rfl) ⟨Nat.le_of_ble_eq_true rfl, Nat.le_of_ble_eq_true rfl⟩ ⟨(by show 50 + 13 * j + 13 + 0 ≤ 601024; omega), (by show 12000 + 900 * j + 900 + 0 ≤ 7293033; omega)⟩ (fun _ _ _ h => VT_no h) (fun v ad1 F2 hp => ?_)
  obtain ⟨rfl, rfl, hM2, hfm⟩ := hp
  have h402 := (hfm 400 (Or.inr (Nat.le_refl _))).2.trans h401
  have hC2 := hC1.keptF (ok_uw hs).1 (fun c hc => (hfm c (Or.inl hc)).2)
  have hMd2 := hM2.1
  unfold mObj at hMd2
  refine V_istore C dL_law_1079 (by decide) ?_
  refine V_aload_n C dL_law_1081 rfl ?_
  refine V_invV C dL_law_1082 hMd2 rfl (m_thrown _ _ _ _ _ hM2.1) mv_L_90 rfl (Nat.le_of_ble_eq_true rfl) ⟨Nat.le_of_ble_eq_true rfl, Nat.le_of_ble_eq_true rfl⟩ ⟨(by show 50 + 13 * j + 13 + 0 + 0 ≤ 601024; omega), (by show 12000 + 900 * j + 900 + 0 + 0 ≤ 7293033; omega)⟩ (fun _ _ _ h => VT_no h) (fun v ad2 F3 hp => ?_)
  obtain ⟨rfl, rfl, rfl⟩ := hp
  refine V_iload C dL_law_1085 rfl ?_
  refine V_icmpeq_t (tgt := 1092) C dL_law_1087 (by decide) (by rw [hA.1]) ?_
  refine V_iload C dL_law_1092 rfl ?_
  refine V_ifne (tgt := 1109) C dL_law_1094 (by decide) (fun h5 => ?_) (fun h5 => ?_)
  · refine V_goto (tgt := 1408) C dL_law_1109 (by decide) ?_
    refine V_wide (by show 50 + 13 * j + 13 ≤ 50 + 13 * j + 13; omega) (by show 12000 + 900 * j + 900 ≤ 12000 + 900 * j + 900; omega) ?_
    exact V_sb (nx _ _ ad1 F2 _ (ok_uw hs) (ok_uw hu) hA.2.2 (Nat.le_trans nw_spUw (by omega)) hC2 hM2 ⟨f1, h402⟩) ⟨rfl, rfl, rfl, rfl, rfl, trivial⟩
  · have h0 : (spUw s a).1 = 0 := (nI_eq (b := 0) (by have := lt_spUw (s := s) (a := a); omega) (by decide)).mp h5
    refine V_aload_n C dL_law_1097 rfl ?_
    refine V_iconst (v := 0) C dL_law_1098 rfl ?_
    refine V_lald C dL_law_1099 h402 (show (0 : Int32) = nI 0 from rfl) (by decide) (by decide) ?_
    refine V_iload C dL_law_1100 rfl ?_
    refine V_i2l C dL_law_1102 rfl ?_
    refine V_lcmp C dL_law_1103 ?_
    refine V_nm (show _ = (0 : Int32) by rw [hf1 h0, hA.2.1]; exact lg_self _) ?_
    refine V_ifeq_t (tgt := 1109) C dL_law_1104 (by decide) rfl ?_
    refine V_goto (tgt := 1408) C dL_law_1109 (by decide) ?_
    refine V_wide (by show 50 + 13 * j + 13 ≤ 50 + 13 * j + 13; omega) (by show 12000 + 900 * j + 900 ≤ 12000 + 900 * j + 900; omega) ?_
    exact V_sb (nx _ _ ad1 F2 _ (ok_uw hs) (ok_uw hu) hA.2.2 (Nat.le_trans nw_spUw (by omega)) hC2 hM2 ⟨f1, h402⟩) ⟨rfl, rfl, rfl, rfl, rfl, trivial⟩
set_option maxHeartbeats 4000000 in
set_option maxRecDepth 100000 in
theorem law_20 {X : Cxt} {nm : String} {tb : List ExceptionTableEntry} (C : Ok X cL_law 7 ⟨RL, nm, ""⟩ room_1 ret tb) {b L : Nat} {sc : Nat → Int32} (hS : Scr X b L sc) (hL : L ≤ 1536) {j : Nat} (hj : j < 512) (h3 : 3 * j + 3 ≤ L) {s u : St} {ad : Nat → Nat} {F : Fn} {th : Int32} (hs : Kp s) (hu : Kp u) (hm : Sim s u) (hn : zNow s ≤ 200 * j) (hC : CRep (xD X) ad F s) (hM : MRep (xD X) ad F u th) {f0 : Nat → Int64} (h400 : F 400 = some (aJ (xD X) 1 f0)) (nx : NX X b j) : V X (50 + 13 * j) (12000 + 900 * j) 1112 [(0, .ref b), (1, .ref (ad 0)), (2, .ref (ad 300)), (3, .ref (ad 400)), (4, .int (nI (3 * j)))] [] ad F := by
  have hun : zNow u ≤ 190000 := by rw [hm.1.1]; omega
  have hsn : zNow s ≤ 190000 := by omega
  obtain ⟨a, ea⟩ : ∃ a, a = sc (3 * j + 1) := ⟨_, rfl⟩
  refine V_aload_n C dL_law_1112 rfl ?_
  refine V_aload_n C dL_law_1113 rfl ?_
  refine V_iload C dL_law_1114 rfl ?_
  refine V_iconst (v := 1) C dL_law_1116 rfl ?_
  refine V_iadd C dL_law_1117 ?_
  refine V_nm (nI_1 (3 * j)) ?_
  refine V_sld C hS dL_law_1118 rfl (by omega) (by omega) ?_
  refine V_nm ea.symm ?_
  refine V_aload_n C dL_law_1119 rfl ?_
  refine V_invH C dL_law_1120 (w_tokens s a f0 hC hs.1 h400 (ok_tok hs).1) mh_L_158 rfl (Nat.le_of_ble_eq_true rfl) ⟨Nat.le_of_ble_eq_true rfl, Nat.le_of_ble_eq_true rfl⟩ ⟨(by show 50 + 13 * j + 13 ≤ 601024; omega), (by show 12000 + 900 * j + 900 ≤ 7293033; omega)⟩ (fun _ _ _ h => VT_no h) (fun v ad1 F1 hp => ?_)
  obtain ⟨rfl, hC1, ⟨f1, h401, hf1⟩, hfk, ha0⟩ := hp
  have had := fun c hc => (hfk c hc).1
  have hFk : ∀ c, 300 ≤ c → c ≠ 400 → F1 c = F c := fun c hc hne => (hfk c hc).2 hne
  have hA := sm_tok (a := a) hm
  rw [show ad 0 = ad1 0 from ha0.symm, show ad 300 = ad1 300 from (had 300 (by decide)).symm, show ad 400 = ad1 400 from (had 400 (by decide)).symm]
  have hM1 := hM.keptK (fun c hc _ => had c hc) hFk
  have hMd := hM1.1
  unfold mObj at hMd
  refine V_istore C dL_law_1123 (by decide) ?_
  refine V_aload_n C dL_law_1125 rfl ?_
  refine V_aload_n C dL_law_1126 rfl ?_
  refine V_iload C dL_law_1127 rfl ?_
  refine V_iconst (v := 1) C dL_law_1129 rfl ?_
  refine V_iadd C dL_law_1130 ?_
  refine V_nm (nI_1 (3 * j)) ?_
  refine V_sld C hS dL_law_1131 rfl (by omega) (by omega) ?_
  refine V_nm ea.symm ?_
  refine V_invV C dL_law_1132 hMd rfl (m_tokens u th a hM1) mv_L_160 rfl (Nat.le_of_ble_eq_true rfl) ⟨Nat.le_of_ble_eq_true rfl, Nat.le_of_ble_eq_true rfl⟩ ⟨(by show 50 + 13 * j + 13 + 0 ≤ 601024; omega), (by show 12000 + 900 * j + 900 + 0 ≤ 7293033; omega)⟩ (fun _ _ _ h => VT_no h) (fun v ad1 F2 hp => ?_)
  obtain ⟨rfl, rfl, hM2, hfm⟩ := hp
  have h402 := (hfm 400 (Or.inr (Nat.le_refl _))).2.trans h401
  have hC2 := hC1.keptF (ok_tok hs).1 (fun c hc => (hfm c (Or.inl hc)).2)
  have hMd2 := hM2.1
  unfold mObj at hMd2
  refine V_istore C dL_law_1135 (by decide) ?_
  refine V_aload_n C dL_law_1137 rfl ?_
  refine V_invV C dL_law_1138 hMd2 rfl (m_thrown _ _ _ _ _ hM2.1) mv_L_90 rfl (Nat.le_of_ble_eq_true rfl) ⟨Nat.le_of_ble_eq_true rfl, Nat.le_of_ble_eq_true rfl⟩ ⟨(by show 50 + 13 * j + 13 + 0 + 0 ≤ 601024; omega), (by show 12000 + 900 * j + 900 + 0 + 0 ≤ 7293033; omega)⟩ (fun _ _ _ h => VT_no h) (fun v ad2 F3 hp => ?_)
  obtain ⟨rfl, rfl, rfl⟩ := hp
  refine V_iload C dL_law_1141 rfl ?_
  refine V_icmpeq_t (tgt := 1148) C dL_law_1143 (by decide) (by rw [hA.1]) ?_
  refine V_iload C dL_law_1148 rfl ?_
  refine V_ifne (tgt := 1165) C dL_law_1150 (by decide) (fun h5 => ?_) (fun h5 => ?_)
  · refine V_goto (tgt := 1408) C dL_law_1165 (by decide) ?_
    refine V_wide (by show 50 + 13 * j + 13 ≤ 50 + 13 * j + 13; omega) (by show 12000 + 900 * j + 900 ≤ 12000 + 900 * j + 900; omega) ?_
    exact V_sb (nx _ _ ad1 F2 _ (ok_tok hs) (ok_tok hu) hA.2.2 (Nat.le_trans nw_spTok (by omega)) hC2 hM2 ⟨f1, h402⟩) ⟨rfl, rfl, rfl, rfl, rfl, trivial⟩
  · have h0 : (spTok s a).1 = 0 := (nI_eq (b := 0) (by have := lt_spTok (s := s) (a := a); omega) (by decide)).mp h5
    refine V_aload_n C dL_law_1153 rfl ?_
    refine V_iconst (v := 0) C dL_law_1154 rfl ?_
    refine V_lald C dL_law_1155 h402 (show (0 : Int32) = nI 0 from rfl) (by decide) (by decide) ?_
    refine V_iload C dL_law_1156 rfl ?_
    refine V_i2l C dL_law_1158 rfl ?_
    refine V_lcmp C dL_law_1159 ?_
    refine V_nm (show _ = (0 : Int32) by rw [hf1 h0, hA.2.1]; exact lg_self _) ?_
    refine V_ifeq_t (tgt := 1165) C dL_law_1160 (by decide) rfl ?_
    refine V_goto (tgt := 1408) C dL_law_1165 (by decide) ?_
    refine V_wide (by show 50 + 13 * j + 13 ≤ 50 + 13 * j + 13; omega) (by show 12000 + 900 * j + 900 ≤ 12000 + 900 * j + 900; omega) ?_
    exact V_sb (nx _ _ ad1 F2 _ (ok_tok hs) (ok_tok hu) hA.2.2 (Nat.le_trans nw_spTok (by omega)) hC2 hM2 ⟨f1, h402⟩) ⟨rfl, rfl, rfl, rfl, rfl, trivial⟩
