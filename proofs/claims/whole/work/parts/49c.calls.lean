/-! ===== the law, call by call ===== -/
set_option maxHeartbeats 4000000 in
set_option maxRecDepth 100000 in
theorem law_9 {X : Cxt} {nm : String} {tb : List ExceptionTableEntry} (C : Ok X cL_law 7 ⟨RL, nm, ""⟩ room_1 ret tb) {b L : Nat} {sc : Nat → Int32} (hS : Scr X b L sc) (hL : L ≤ 1536) {j : Nat} (hj : j < 512) (h3 : 3 * j + 3 ≤ L) {s u : St} {ad : Nat → Nat} {F : Fn} {th : Int32} (hs : Kp s) (hu : Kp u) (hm : Sim s u) (hn : zNow s ≤ 200 * j) (hC : CRep (xD X) ad F s) (hM : MRep (xD X) ad F u th) {f0 : Nat → Int64} (h400 : F 400 = some (aJ (xD X) 1 f0)) (nx : NX X b j) : V X (50 + 13 * j) (12000 + 900 * j) 551 [(0, .ref b), (1, .ref (ad 0)), (2, .ref (ad 300)), (3, .ref (ad 400)), (4, .int (nI (3 * j)))] [] ad F := by
  have hun : zNow u ≤ 190000 := by rw [hm.1.1]; omega
  have hsn : zNow s ≤ 190000 := by omega
  obtain ⟨a, ea⟩ : ∃ a, a = sc (3 * j + 1) := ⟨_, rfl⟩
  refine V_aload_n C dL_law_551 rfl ?_
  refine V_aload_n C dL_law_552 rfl ?_
  refine V_iload C dL_law_553 rfl ?_
  refine V_iconst (v := 1) C dL_law_555 rfl ?_
  refine V_iadd C dL_law_556 ?_
  refine V_nm (nI_1 (3 * j)) ?_
  refine V_sld C hS dL_law_557 rfl (by omega) (by omega) ?_
  refine V_nm ea.symm ?_
  refine V_aload_n C dL_law_558 rfl ?_
  refine V_invH C dL_law_559 (w_state s a f0 hC hs.1 h400 (ok_state hs).1) mh_L_123 rfl (Nat.le_of_ble_eq_true rfl) ⟨Nat.le_of_ble_eq_true rfl, Nat.le_of_ble_eq_true rfl⟩ ⟨(by show 50 + 13 * j + 13 ≤ 601024; omega), (by show 12000 + 900 * j + 900 ≤ 7293033; omega)⟩ (fun _ _ _ h => VT_no h) (fun v ad1 F1 hp => ?_)
  obtain ⟨rfl, hC1, ⟨f1, h401, hf1⟩, hfk, ha0⟩ := hp
  have had := fun c hc => (hfk c hc).1
  have hFk : ∀ c, 300 ≤ c → c ≠ 400 → F1 c = F c := fun c hc hne => (hfk c hc).2 hne
  have hA := sm_state (a := a) hm
  rw [show ad 0 = ad1 0 from ha0.symm, show ad 300 = ad1 300 from (had 300 (by decide)).symm, show ad 400 = ad1 400 from (had 400 (by decide)).symm]
  have hM1 := hM.keptK (fun c hc _ => had c hc) hFk
  have hMd := hM1.1
  unfold mObj at hMd
  refine V_istore C dL_law_562 (by decide) ?_
  refine V_aload_n C dL_law_564 rfl ?_
  refine V_aload_n C dL_law_565 rfl ?_
  refine V_iload C dL_law_566 rfl ?_
  refine V_iconst (v := 1) C dL_law_568 rfl ?_
  refine V_iadd C dL_law_569 ?_
  refine V_nm (nI_1 (3 * j)) ?_
  refine V_sld C hS dL_law_570 rfl (by omega) (by omega) ?_
  refine V_nm ea.symm ?_
  refine V_invV C dL_law_571 hMd rfl (m_state u th a hM1 hu.1) mv_L_125 rfl (Nat.le_of_ble_eq_true rfl) ⟨Nat.le_of_ble_eq_true rfl, Nat.le_of_ble_eq_true rfl⟩ ⟨(by show 50 + 13 * j + 13 + 0 ≤ 601024; omega), (by show 12000 + 900 * j + 900 + 0 ≤ 7293033; omega)⟩ (fun _ _ _ h => VT_no h) (fun v ad1 F2 hp => ?_)
  obtain ⟨rfl, rfl, hM2, hfm⟩ := hp
  have h402 := (hfm 400 (Or.inr (Nat.le_refl _))).2.trans h401
  have hC2 := hC1.keptF (ok_state hs).1 (fun c hc => (hfm c (Or.inl hc)).2)
  have hMd2 := hM2.1
  unfold mObj at hMd2
  refine V_istore C dL_law_574 (by decide) ?_
  refine V_aload_n C dL_law_576 rfl ?_
  refine V_invV C dL_law_577 hMd2 rfl (m_thrown _ _ _ _ _ hM2.1) mv_L_90 rfl (Nat.le_of_ble_eq_true rfl) ⟨Nat.le_of_ble_eq_true rfl, Nat.le_of_ble_eq_true rfl⟩ ⟨(by show 50 + 13 * j + 13 + 0 + 0 ≤ 601024; omega), (by show 12000 + 900 * j + 900 + 0 + 0 ≤ 7293033; omega)⟩ (fun _ _ _ h => VT_no h) (fun v ad2 F3 hp => ?_)
  obtain ⟨rfl, rfl, rfl⟩ := hp
  refine V_iload C dL_law_580 rfl ?_
  refine V_icmpeq_t (tgt := 587) C dL_law_582 (by decide) (by rw [hA.1]) ?_
  refine V_iload C dL_law_587 rfl ?_
  refine V_ifne (tgt := 604) C dL_law_589 (by decide) (fun h5 => ?_) (fun h5 => ?_)
  · refine V_goto (tgt := 1408) C dL_law_604 (by decide) ?_
    refine V_wide (by show 50 + 13 * j + 13 ≤ 50 + 13 * j + 13; omega) (by show 12000 + 900 * j + 900 ≤ 12000 + 900 * j + 900; omega) ?_
    exact V_sb (nx _ _ ad1 F2 _ (ok_state hs) (ok_state hu) hA.2.2 (Nat.le_trans nw_spState (by omega)) hC2 hM2 ⟨f1, h402⟩) ⟨rfl, rfl, rfl, rfl, rfl, trivial⟩
  · have h0 : (spState s a).1 = 0 := (nI_eq (b := 0) (by have := lt_spState (s := s) (a := a); omega) (by decide)).mp h5
    refine V_aload_n C dL_law_592 rfl ?_
    refine V_iconst (v := 0) C dL_law_593 rfl ?_
    refine V_lald C dL_law_594 h402 (show (0 : Int32) = nI 0 from rfl) (by decide) (by decide) ?_
    refine V_iload C dL_law_595 rfl ?_
    refine V_i2l C dL_law_597 rfl ?_
    refine V_lcmp C dL_law_598 ?_
    refine V_nm (show _ = (0 : Int32) by rw [hf1 h0, hA.2.1]; exact lg_self _) ?_
    refine V_ifeq_t (tgt := 604) C dL_law_599 (by decide) rfl ?_
    refine V_goto (tgt := 1408) C dL_law_604 (by decide) ?_
    refine V_wide (by show 50 + 13 * j + 13 ≤ 50 + 13 * j + 13; omega) (by show 12000 + 900 * j + 900 ≤ 12000 + 900 * j + 900; omega) ?_
    exact V_sb (nx _ _ ad1 F2 _ (ok_state hs) (ok_state hu) hA.2.2 (Nat.le_trans nw_spState (by omega)) hC2 hM2 ⟨f1, h402⟩) ⟨rfl, rfl, rfl, rfl, rfl, trivial⟩
set_option maxHeartbeats 4000000 in
set_option maxRecDepth 100000 in
theorem law_10 {X : Cxt} {nm : String} {tb : List ExceptionTableEntry} (C : Ok X cL_law 7 ⟨RL, nm, ""⟩ room_1 ret tb) {b L : Nat} {sc : Nat → Int32} (hS : Scr X b L sc) (hL : L ≤ 1536) {j : Nat} (hj : j < 512) (h3 : 3 * j + 3 ≤ L) {s u : St} {ad : Nat → Nat} {F : Fn} {th : Int32} (hs : Kp s) (hu : Kp u) (hm : Sim s u) (hn : zNow s ≤ 200 * j) (hC : CRep (xD X) ad F s) (hM : MRep (xD X) ad F u th) {f0 : Nat → Int64} (h400 : F 400 = some (aJ (xD X) 1 f0)) (nx : NX X b j) : V X (50 + 13 * j) (12000 + 900 * j) 607 [(0, .ref b), (1, .ref (ad 0)), (2, .ref (ad 300)), (3, .ref (ad 400)), (4, .int (nI (3 * j)))] [] ad F := by
  have hun : zNow u ≤ 190000 := by rw [hm.1.1]; omega
  have hsn : zNow s ≤ 190000 := by omega
  obtain ⟨a, ea⟩ : ∃ a, a = sc (3 * j + 1) := ⟨_, rfl⟩
  refine V_aload_n C dL_law_607 rfl ?_
  refine V_aload_n C dL_law_608 rfl ?_
  refine V_iload C dL_law_609 rfl ?_
  refine V_iconst (v := 1) C dL_law_611 rfl ?_
  refine V_iadd C dL_law_612 ?_
  refine V_nm (nI_1 (3 * j)) ?_
  refine V_sld C hS dL_law_613 rfl (by omega) (by omega) ?_
  refine V_nm ea.symm ?_
  refine V_aload_n C dL_law_614 rfl ?_
  refine V_invH C dL_law_615 (w_missing s a f0 hC hs.1 h400 (ok_miss hs).1) mh_L_126 rfl (Nat.le_of_ble_eq_true rfl) ⟨Nat.le_of_ble_eq_true rfl, Nat.le_of_ble_eq_true rfl⟩ ⟨(by show 50 + 13 * j + 13 ≤ 601024; omega), (by show 12000 + 900 * j + 900 ≤ 7293033; omega)⟩ (fun _ _ _ h => VT_no h) (fun v ad1 F1 hp => ?_)
  obtain ⟨rfl, hC1, ⟨f1, h401, hf1⟩, hfk, ha0⟩ := hp
  have had := fun c hc => (hfk c hc).1
  have hFk : ∀ c, 300 ≤ c → c ≠ 400 → F1 c = F c := fun c hc hne => (hfk c hc).2 hne
  have hA := sm_miss (a := a) hm
  rw [show ad 0 = ad1 0 from ha0.symm, show ad 300 = ad1 300 from (had 300 (by decide)).symm, show ad 400 = ad1 400 from (had 400 (by decide)).symm]
  have hM1 := hM.keptK (fun c hc _ => had c hc) hFk
  have hMd := hM1.1
  unfold mObj at hMd
  refine V_istore C dL_law_618 (by decide) ?_
  refine V_aload_n C dL_law_620 rfl ?_
  refine V_aload_n C dL_law_621 rfl ?_
  refine V_iload C dL_law_622 rfl ?_
  refine V_iconst (v := 1) C dL_law_624 rfl ?_
  refine V_iadd C dL_law_625 ?_
  refine V_nm (nI_1 (3 * j)) ?_
  refine V_sld C hS dL_law_626 rfl (by omega) (by omega) ?_
  refine V_nm ea.symm ?_
  refine V_invV C dL_law_627 hMd rfl (m_missing u th a hM1 hu.1) mv_L_128 rfl (Nat.le_of_ble_eq_true rfl) ⟨Nat.le_of_ble_eq_true rfl, Nat.le_of_ble_eq_true rfl⟩ ⟨(by show 50 + 13 * j + 13 + 0 ≤ 601024; omega), (by show 12000 + 900 * j + 900 + 0 ≤ 7293033; omega)⟩ (fun _ _ _ h => VT_no h) (fun v ad1 F2 hp => ?_)
  obtain ⟨rfl, rfl, hM2, hfm⟩ := hp
  have h402 := (hfm 400 (Or.inr (Nat.le_refl _))).2.trans h401
  have hC2 := hC1.keptF (ok_miss hs).1 (fun c hc => (hfm c (Or.inl hc)).2)
  have hMd2 := hM2.1
  unfold mObj at hMd2
  refine V_istore C dL_law_630 (by decide) ?_
  refine V_aload_n C dL_law_632 rfl ?_
  refine V_invV C dL_law_633 hMd2 rfl (m_thrown _ _ _ _ _ hM2.1) mv_L_90 rfl (Nat.le_of_ble_eq_true rfl) ⟨Nat.le_of_ble_eq_true rfl, Nat.le_of_ble_eq_true rfl⟩ ⟨(by show 50 + 13 * j + 13 + 0 + 0 ≤ 601024; omega), (by show 12000 + 900 * j + 900 + 0 + 0 ≤ 7293033; omega)⟩ (fun _ _ _ h => VT_no h) (fun v ad2 F3 hp => ?_)
  obtain ⟨rfl, rfl, rfl⟩ := hp
  refine V_iload C dL_law_636 rfl ?_
  refine V_icmpeq_t (tgt := 643) C dL_law_638 (by decide) (by rw [hA.1]) ?_
  refine V_iload C dL_law_643 rfl ?_
  refine V_ifne (tgt := 660) C dL_law_645 (by decide) (fun h5 => ?_) (fun h5 => ?_)
  · refine V_goto (tgt := 1408) C dL_law_660 (by decide) ?_
    refine V_wide (by show 50 + 13 * j + 13 ≤ 50 + 13 * j + 13; omega) (by show 12000 + 900 * j + 900 ≤ 12000 + 900 * j + 900; omega) ?_
    exact V_sb (nx _ _ ad1 F2 _ (ok_miss hs) (ok_miss hu) hA.2.2 (Nat.le_trans nw_spMiss (by omega)) hC2 hM2 ⟨f1, h402⟩) ⟨rfl, rfl, rfl, rfl, rfl, trivial⟩
  · have h0 : (spMiss s a).1 = 0 := (nI_eq (b := 0) (by have := lt_spMiss (s := s) (a := a); omega) (by decide)).mp h5
    refine V_aload_n C dL_law_648 rfl ?_
    refine V_iconst (v := 0) C dL_law_649 rfl ?_
    refine V_lald C dL_law_650 h402 (show (0 : Int32) = nI 0 from rfl) (by decide) (by decide) ?_
    refine V_iload C dL_law_651 rfl ?_
    refine V_i2l C dL_law_653 rfl ?_
    refine V_lcmp C dL_law_654 ?_
    refine V_nm (show _ = (0 : Int32) by rw [hf1 h0, hA.2.1]; exact lg_self _) ?_
    refine V_ifeq_t (tgt := 660) C dL_law_655 (by decide) rfl ?_
    refine V_goto (tgt := 1408) C dL_law_660 (by decide) ?_
    refine V_wide (by show 50 + 13 * j + 13 ≤ 50 + 13 * j + 13; omega) (by show 12000 + 900 * j + 900 ≤ 12000 + 900 * j + 900; omega) ?_
    exact V_sb (nx _ _ ad1 F2 _ (ok_miss hs) (ok_miss hu) hA.2.2 (Nat.le_trans nw_spMiss (by omega)) hC2 hM2 ⟨f1, h402⟩) ⟨rfl, rfl, rfl, rfl, rfl, trivial⟩
set_option maxHeartbeats 4000000 in
set_option maxRecDepth 100000 in
theorem law_11 {X : Cxt} {nm : String} {tb : List ExceptionTableEntry} (C : Ok X cL_law 7 ⟨RL, nm, ""⟩ room_1 ret tb) {b L : Nat} {sc : Nat → Int32} (hS : Scr X b L sc) (hL : L ≤ 1536) {j : Nat} (hj : j < 512) (h3 : 3 * j + 3 ≤ L) {s u : St} {ad : Nat → Nat} {F : Fn} {th : Int32} (hs : Kp s) (hu : Kp u) (hm : Sim s u) (hn : zNow s ≤ 200 * j) (hC : CRep (xD X) ad F s) (hM : MRep (xD X) ad F u th) {f0 : Nat → Int64} (h400 : F 400 = some (aJ (xD X) 1 f0)) (nx : NX X b j) : V X (50 + 13 * j) (12000 + 900 * j) 663 [(0, .ref b), (1, .ref (ad 0)), (2, .ref (ad 300)), (3, .ref (ad 400)), (4, .int (nI (3 * j)))] [] ad F := by
  have hun : zNow u ≤ 190000 := by rw [hm.1.1]; omega
  have hsn : zNow s ≤ 190000 := by omega
  obtain ⟨a, ea⟩ : ∃ a, a = sc (3 * j + 1) := ⟨_, rfl⟩
  obtain ⟨c, ec⟩ : ∃ c, c = sc (3 * j + 2) := ⟨_, rfl⟩
  refine V_aload_n C dL_law_663 rfl ?_
  refine V_aload_n C dL_law_664 rfl ?_
  refine V_iload C dL_law_665 rfl ?_
  refine V_iconst (v := 1) C dL_law_667 rfl ?_
  refine V_iadd C dL_law_668 ?_
  refine V_nm (nI_1 (3 * j)) ?_
  refine V_sld C hS dL_law_669 rfl (by omega) (by omega) ?_
  refine V_nm ea.symm ?_
  refine V_aload_n C dL_law_670 rfl ?_
  refine V_iload C dL_law_671 rfl ?_
  refine V_iconst (v := 2) C dL_law_673 rfl ?_
  refine V_iadd C dL_law_674 ?_
  refine V_nm (nI_add (3 * j) 2) ?_
  refine V_sld C hS dL_law_675 rfl (by omega) (by omega) ?_
  refine V_nm ec.symm ?_
  refine V_aload_n C dL_law_676 rfl ?_
  refine V_invH C dL_law_677 (w_joined s a c f0 hC hs.1 h400 (ok_join hs).1) mh_L_129 rfl (Nat.le_of_ble_eq_true rfl) ⟨Nat.le_of_ble_eq_true rfl, Nat.le_of_ble_eq_true rfl⟩ ⟨(by show 50 + 13 * j + 13 ≤ 601024; omega), (by show 12000 + 900 * j + 900 ≤ 7293033; omega)⟩ (fun _ _ _ h => VT_no h) (fun v ad1 F1 hp => ?_)
  obtain ⟨rfl, hC1, ⟨f1, h401, hf1⟩, hfk, ha0⟩ := hp
  have had := fun c hc => (hfk c hc).1
  have hFk : ∀ c, 300 ≤ c → c ≠ 400 → F1 c = F c := fun c hc hne => (hfk c hc).2 hne
  have hA := sm_join (a := a) (b := c) hm
  rw [show ad 0 = ad1 0 from ha0.symm, show ad 300 = ad1 300 from (had 300 (by decide)).symm, show ad 400 = ad1 400 from (had 400 (by decide)).symm]
  have hM1 := hM.keptK (fun c hc _ => had c hc) hFk
  have hMd := hM1.1
  unfold mObj at hMd
  refine V_istore C dL_law_680 (by decide) ?_
  refine V_aload_n C dL_law_682 rfl ?_
  refine V_aload_n C dL_law_683 rfl ?_
  refine V_iload C dL_law_684 rfl ?_
  refine V_iconst (v := 1) C dL_law_686 rfl ?_
  refine V_iadd C dL_law_687 ?_
  refine V_nm (nI_1 (3 * j)) ?_
  refine V_sld C hS dL_law_688 rfl (by omega) (by omega) ?_
  refine V_nm ea.symm ?_
  refine V_aload_n C dL_law_689 rfl ?_
  refine V_iload C dL_law_690 rfl ?_
  refine V_iconst (v := 2) C dL_law_692 rfl ?_
  refine V_iadd C dL_law_693 ?_
  refine V_nm (nI_add (3 * j) 2) ?_
  refine V_sld C hS dL_law_694 rfl (by omega) (by omega) ?_
  refine V_nm ec.symm ?_
  refine V_invV C dL_law_695 hMd rfl (m_joined u th a c hM1 hu.1) mv_L_131 rfl (Nat.le_of_ble_eq_true rfl) ⟨Nat.le_of_ble_eq_true rfl, Nat.le_of_ble_eq_true rfl⟩ ⟨(by show 50 + 13 * j + 13 + 0 ≤ 601024; omega), (by show 12000 + 900 * j + 900 + 0 ≤ 7293033; omega)⟩ (fun _ _ _ h => VT_no h) (fun v ad1 F2 hp => ?_)
  obtain ⟨rfl, rfl, hM2, hfm⟩ := hp
  have h402 := (hfm 400 (Or.inr (Nat.le_refl _))).2.trans h401
  have hC2 := hC1.keptF (ok_join hs).1 (fun c hc => (hfm c (Or.inl hc)).2)
  have hMd2 := hM2.1
  unfold mObj at hMd2
  refine V_istore C dL_law_698 (by decide) ?_
  refine V_aload_n C dL_law_700 rfl ?_
  refine V_invV C dL_law_701 hMd2 rfl (m_thrown _ _ _ _ _ hM2.1) mv_L_90 rfl (Nat.le_of_ble_eq_true rfl) ⟨Nat.le_of_ble_eq_true rfl, Nat.le_of_ble_eq_true rfl⟩ ⟨(by show 50 + 13 * j + 13 + 0 + 0 ≤ 601024; omega), (by show 12000 + 900 * j + 900 + 0 + 0 ≤ 7293033; omega)⟩ (fun _ _ _ h => VT_no h) (fun v ad2 F3 hp => ?_)
  obtain ⟨rfl, rfl, rfl⟩ := hp
  refine V_iload C dL_law_704 rfl ?_
  refine V_icmpeq_t (tgt := 711) C dL_law_706 (by decide) (by rw [hA.1]) ?_
  refine V_iload C dL_law_711 rfl ?_
  refine V_ifne (tgt := 728) C dL_law_713 (by decide) (fun h5 => ?_) (fun h5 => ?_)
  · refine V_goto (tgt := 1408) C dL_law_728 (by decide) ?_
    refine V_wide (by show 50 + 13 * j + 13 ≤ 50 + 13 * j + 13; omega) (by show 12000 + 900 * j + 900 ≤ 12000 + 900 * j + 900; omega) ?_
    exact V_sb (nx _ _ ad1 F2 _ (ok_join hs) (ok_join hu) hA.2.2 (Nat.le_trans nw_spJoin (by omega)) hC2 hM2 ⟨f1, h402⟩) ⟨rfl, rfl, rfl, rfl, rfl, trivial⟩
  · have h0 : (spJoin s a c).1 = 0 := (nI_eq (b := 0) (by have := lt_spJoin (s := s) (a := a) (b := c); omega) (by decide)).mp h5
    refine V_aload_n C dL_law_716 rfl ?_
    refine V_iconst (v := 0) C dL_law_717 rfl ?_
    refine V_lald C dL_law_718 h402 (show (0 : Int32) = nI 0 from rfl) (by decide) (by decide) ?_
    refine V_iload C dL_law_719 rfl ?_
    refine V_i2l C dL_law_721 rfl ?_
    refine V_lcmp C dL_law_722 ?_
    refine V_nm (show _ = (0 : Int32) by rw [hf1 h0, hA.2.1]; exact lg_self _) ?_
    refine V_ifeq_t (tgt := 728) C dL_law_723 (by decide) rfl ?_
    refine V_goto (tgt := 1408) C dL_law_728 (by decide) ?_
    refine V_wide (by show 50 + 13 * j + 13 ≤ 50 + 13 * j + 13; omega) (by show 12000 + 900 * j + 900 ≤ 12000 + 900 * j + 900; omega) ?_
    exact V_sb (nx _ _ ad1 F2 _ (ok_join hs) (ok_join hu) hA.2.2 (Nat.le_trans nw_spJoin (by omega)) hC2 hM2 ⟨f1, h402⟩) ⟨rfl, rfl, rfl, rfl, rfl, trivial⟩
set_option maxHeartbeats 4000000 in
set_option maxRecDepth 100000 in
theorem law_12 {X : Cxt} {nm : String} {tb : List ExceptionTableEntry} (C : Ok X cL_law 7 ⟨RL, nm, ""⟩ room_1 ret tb) {b L : Nat} {sc : Nat → Int32} (hS : Scr X b L sc) (hL : L ≤ 1536) {j : Nat} (hj : j < 512) (h3 : 3 * j + 3 ≤ L) {s u : St} {ad : Nat → Nat} {F : Fn} {th : Int32} (hs : Kp s) (hu : Kp u) (hm : Sim s u) (hn : zNow s ≤ 200 * j) (hC : CRep (xD X) ad F s) (hM : MRep (xD X) ad F u th) {f0 : Nat → Int64} (h400 : F 400 = some (aJ (xD X) 1 f0)) (nx : NX X b j) : V X (50 + 13 * j) (12000 + 900 * j) 731 [(0, .ref b), (1, .ref (ad 0)), (2, .ref (ad 300)), (3, .ref (ad 400)), (4, .int (nI (3 * j)))] [] ad F := by
  have hun : zNow u ≤ 190000 := by rw [hm.1.1]; omega
  have hsn : zNow s ≤ 190000 := by omega
  have hCl := hC.1
  unfold kMain at hCl
  refine V_aload_n C dL_law_731 rfl ?_
  refine V_invV C dL_law_732 hCl rfl (c_receipts s hC hs.1) mv_L_132 rfl (Nat.le_of_ble_eq_true rfl) ⟨Nat.le_of_ble_eq_true rfl, Nat.le_of_ble_eq_true rfl⟩ ⟨(by show 50 + 13 * j + 1 ≤ 601024; omega), (by show 12000 + 900 * j + 6 ≤ 7293033; omega)⟩ (fun _ _ _ h => VT_no h) (fun v ad1 F1 hp => ?_)
  obtain ⟨-, rfl, hC1, hfk⟩ := hp
  have ha0 := hfk.a0
  have h401 := (hfk 400 (by decide)).2.trans h400
  have had : ∀ c, 300 ≤ c → ad1 c = ad c := fun c hc => hfk.ad hc
  have hFk : ∀ c, 300 ≤ c → c ≠ 400 → F1 c = F c := fun c hc _ => (hfk c hc).2
  have hA := sm_rcps hm
  rw [show ad 0 = ad1 0 from ha0.symm, show ad 300 = ad1 300 from (had 300 (by decide)).symm, show ad 400 = ad1 400 from (had 400 (by decide)).symm]
  have hM1 := hM.keptK (fun c hc _ => had c hc) hFk
  have hMd := hM1.1
  unfold mObj at hMd
  refine V_aload_n C dL_law_735 rfl ?_
  refine V_invV C dL_law_736 hMd rfl (m_receipts u th hM1) mv_L_135 rfl (Nat.le_of_ble_eq_true rfl) ⟨Nat.le_of_ble_eq_true rfl, Nat.le_of_ble_eq_true rfl⟩ ⟨(by show 50 + 13 * j + 1 + 0 ≤ 601024; omega), (by show 12000 + 900 * j + 6 + 0 ≤ 7293033; omega)⟩ (fun _ _ _ h => VT_no h) (fun v ad1 F2 hp => ?_)
  obtain ⟨rfl, rfl, hM2, hfm⟩ := hp
  have h402 := (hfm 400 (Or.inr (Nat.le_refl _))).2.trans h401
  have hC2 := hC1.keptF hs.1 (fun c hc => (hfm c (Or.inl hc)).2)
  refine V_icmpeq_t (tgt := 1408) C dL_law_739 (by decide) hA.2.1.symm ?_
  refine V_wide (by show 50 + 13 * j + 1 ≤ 50 + 13 * j + 13; omega) (by show 12000 + 900 * j + 6 ≤ 12000 + 900 * j + 900; omega) ?_
  exact V_sb (nx _ _ ad1 F2 _ hs hu hA.2.2 (Nat.le_trans nw_spRcps (by omega)) hC2 hM2 ⟨f0, h402⟩) ⟨rfl, rfl, rfl, rfl, rfl, trivial⟩
