/-! ===== the law, call by call ===== -/
set_option maxHeartbeats 4000000 in
set_option maxRecDepth 100000 in
theorem law_13 {X : Cxt} {nm : String} {tb : List ExceptionTableEntry} (C : Ok X cL_law 7 ⟨RL, nm, ""⟩ room_1 ret tb) {b L : Nat} {sc : Nat → Int32} (hS : Scr X b L sc) (hL : L ≤ 1536) {j : Nat} (hj : j < 512) (h3 : 3 * j + 3 ≤ L) {s u : St} {ad : Nat → Nat} {F : Fn} {th : Int32} (hs : Kp s) (hu : Kp u) (hm : Sim s u) (hn : zNow s ≤ 200 * j) (hC : CRep (xD X) ad F s) (hM : MRep (xD X) ad F u th) {f0 : Nat → Int64} (h400 : F 400 = some (aJ (xD X) 1 f0)) (nx : NX X b j) : V X (50 + 13 * j) (12000 + 900 * j) 744 [(0, .ref b), (1, .ref (ad 0)), (2, .ref (ad 300)), (3, .ref (ad 400)), (4, .int (nI (3 * j)))] [] ad F := by
  have hun : zNow u ≤ 190000 := by rw [hm.1.1]; omega
  have hsn : zNow s ≤ 190000 := by omega
  obtain ⟨a, ea⟩ : ∃ a, a = sc (3 * j + 1) := ⟨_, rfl⟩
  refine V_aload_n C dL_law_744 rfl ?_
  refine V_aload_n C dL_law_745 rfl ?_
  refine V_iload C dL_law_746 rfl ?_
  refine V_iconst (v := 1) C dL_law_748 rfl ?_
  refine V_iadd C dL_law_749 ?_
  refine V_nm (nI_1 (3 * j)) ?_
  refine V_sld C hS dL_law_750 rfl (by omega) (by omega) ?_
  refine V_nm ea.symm ?_
  refine V_aload_n C dL_law_751 rfl ?_
  refine V_invH C dL_law_752 (w_receipt s a f0 hC hs.1 h400 (ok_rcp hs).1) mh_L_136 rfl (Nat.le_of_ble_eq_true rfl) ⟨Nat.le_of_ble_eq_true rfl, Nat.le_of_ble_eq_true rfl⟩ ⟨(by show 50 + 13 * j + 13 ≤ 601024; omega), (by show 12000 + 900 * j + 900 ≤ 7293033; omega)⟩ (fun _ _ _ h => VT_no h) (fun v ad1 F1 hp => ?_)
  obtain ⟨rfl, hC1, ⟨f1, h401, hf1⟩, hfk, ha0⟩ := hp
  have had := fun c hc => (hfk c hc).1
  have hFk : ∀ c, 300 ≤ c → c ≠ 400 → F1 c = F c := fun c hc hne => (hfk c hc).2 hne
  have hA := sm_rcp (a := a) hm
  rw [show ad 0 = ad1 0 from ha0.symm, show ad 300 = ad1 300 from (had 300 (by decide)).symm, show ad 400 = ad1 400 from (had 400 (by decide)).symm]
  have hM1 := hM.keptK (fun c hc _ => had c hc) hFk
  have hMd := hM1.1
  unfold mObj at hMd
  refine V_istore C dL_law_755 (by decide) ?_
  refine V_aload_n C dL_law_757 rfl ?_
  refine V_aload_n C dL_law_758 rfl ?_
  refine V_iload C dL_law_759 rfl ?_
  refine V_iconst (v := 1) C dL_law_761 rfl ?_
  refine V_iadd C dL_law_762 ?_
  refine V_nm (nI_1 (3 * j)) ?_
  refine V_sld C hS dL_law_763 rfl (by omega) (by omega) ?_
  refine V_nm ea.symm ?_
  refine V_invV C dL_law_764 hMd rfl (m_receipt u th a hM1 hu.1) mv_L_138 rfl (Nat.le_of_ble_eq_true rfl) ⟨Nat.le_of_ble_eq_true rfl, Nat.le_of_ble_eq_true rfl⟩ ⟨(by show 50 + 13 * j + 13 + 0 ≤ 601024; omega), (by show 12000 + 900 * j + 900 + 0 ≤ 7293033; omega)⟩ (fun _ _ _ h => VT_no h) (fun v ad1 F2 hp => ?_)
  obtain ⟨rfl, rfl, hM2, hfm⟩ := hp
  have h402 := (hfm 400 (Or.inr (Nat.le_refl _))).2.trans h401
  have hC2 := hC1.keptF (ok_rcp hs).1 (fun c hc => (hfm c (Or.inl hc)).2)
  have hMd2 := hM2.1
  unfold mObj at hMd2
  refine V_istore C dL_law_767 (by decide) ?_
  refine V_aload_n C dL_law_769 rfl ?_
  refine V_invV C dL_law_770 hMd2 rfl (m_thrown _ _ _ _ _ hM2.1) mv_L_90 rfl (Nat.le_of_ble_eq_true rfl) ⟨Nat.le_of_ble_eq_true rfl, Nat.le_of_ble_eq_true rfl⟩ ⟨(by show 50 + 13 * j + 13 + 0 + 0 ≤ 601024; omega), (by show 12000 + 900 * j + 900 + 0 + 0 ≤ 7293033; omega)⟩ (fun _ _ _ h => VT_no h) (fun v ad2 F3 hp => ?_)
  obtain ⟨rfl, rfl, rfl⟩ := hp
  refine V_iload C dL_law_773 rfl ?_
  refine V_icmpeq_t (tgt := 780) C dL_law_775 (by decide) (by rw [hA.1]) ?_
  refine V_iload C dL_law_780 rfl ?_
  refine V_ifne (tgt := 797) C dL_law_782 (by decide) (fun h5 => ?_) (fun h5 => ?_)
  · refine V_goto (tgt := 1408) C dL_law_797 (by decide) ?_
    refine V_wide (by show 50 + 13 * j + 13 ≤ 50 + 13 * j + 13; omega) (by show 12000 + 900 * j + 900 ≤ 12000 + 900 * j + 900; omega) ?_
    exact V_sb (nx _ _ ad1 F2 _ (ok_rcp hs) (ok_rcp hu) hA.2.2 (Nat.le_trans nw_spRcp (by omega)) hC2 hM2 ⟨f1, h402⟩) ⟨rfl, rfl, rfl, rfl, rfl, trivial⟩
  · have h0 : (spRcp s a).1 = 0 := (nI_eq (b := 0) (by have := lt_spRcp (s := s) (a := a); omega) (by decide)).mp h5
    refine V_aload_n C dL_law_785 rfl ?_
    refine V_iconst (v := 0) C dL_law_786 rfl ?_
    refine V_lald C dL_law_787 h402 (show (0 : Int32) = nI 0 from rfl) (by decide) (by decide) ?_
    refine V_iload C dL_law_788 rfl ?_
    refine V_i2l C dL_law_790 rfl ?_
    refine V_lcmp C dL_law_791 ?_
    refine V_nm (show _ = (0 : Int32) by rw [hf1 h0, hA.2.1]; exact lg_self _) ?_
    refine V_ifeq_t (tgt := 797) C dL_law_792 (by decide) rfl ?_
    refine V_goto (tgt := 1408) C dL_law_797 (by decide) ?_
    refine V_wide (by show 50 + 13 * j + 13 ≤ 50 + 13 * j + 13; omega) (by show 12000 + 900 * j + 900 ≤ 12000 + 900 * j + 900; omega) ?_
    exact V_sb (nx _ _ ad1 F2 _ (ok_rcp hs) (ok_rcp hu) hA.2.2 (Nat.le_trans nw_spRcp (by omega)) hC2 hM2 ⟨f1, h402⟩) ⟨rfl, rfl, rfl, rfl, rfl, trivial⟩
set_option maxHeartbeats 4000000 in
set_option maxRecDepth 100000 in
theorem law_14 {X : Cxt} {nm : String} {tb : List ExceptionTableEntry} (C : Ok X cL_law 7 ⟨RL, nm, ""⟩ room_1 ret tb) {b L : Nat} {sc : Nat → Int32} (hS : Scr X b L sc) (hL : L ≤ 1536) {j : Nat} (hj : j < 512) (h3 : 3 * j + 3 ≤ L) {s u : St} {ad : Nat → Nat} {F : Fn} {th : Int32} (hs : Kp s) (hu : Kp u) (hm : Sim s u) (hn : zNow s ≤ 200 * j) (hC : CRep (xD X) ad F s) (hM : MRep (xD X) ad F u th) {f0 : Nat → Int64} (h400 : F 400 = some (aJ (xD X) 1 f0)) (nx : NX X b j) : V X (50 + 13 * j) (12000 + 900 * j) 800 [(0, .ref b), (1, .ref (ad 0)), (2, .ref (ad 300)), (3, .ref (ad 400)), (4, .int (nI (3 * j)))] [] ad F := by
  have hun : zNow u ≤ 190000 := by rw [hm.1.1]; omega
  have hsn : zNow s ≤ 190000 := by omega
  obtain ⟨a, ea⟩ : ∃ a, a = sc (3 * j + 1) := ⟨_, rfl⟩
  refine V_aload_n C dL_law_800 rfl ?_
  refine V_aload_n C dL_law_801 rfl ?_
  refine V_iload C dL_law_802 rfl ?_
  refine V_iconst (v := 1) C dL_law_804 rfl ?_
  refine V_iadd C dL_law_805 ?_
  refine V_nm (nI_1 (3 * j)) ?_
  refine V_sld C hS dL_law_806 rfl (by omega) (by omega) ?_
  refine V_nm ea.symm ?_
  refine V_aload_n C dL_law_807 rfl ?_
  refine V_invH C dL_law_808 (w_pass s a f0 hC hs.1 hsn h400 (ok_pass hs hsn).1) mh_L_139 rfl (Nat.le_of_ble_eq_true rfl) ⟨Nat.le_of_ble_eq_true rfl, Nat.le_of_ble_eq_true rfl⟩ ⟨(by show 50 + 13 * j + 13 ≤ 601024; omega), (by show 12000 + 900 * j + 900 ≤ 7293033; omega)⟩ (fun _ _ _ h => VT_no h) (fun v ad1 F1 hp => ?_)
  obtain ⟨rfl, hC1, ⟨f1, h401, hf1⟩, hfk, ha0⟩ := hp
  have had := fun c hc => (hfk c hc).1
  have hFk : ∀ c, 300 ≤ c → c ≠ 400 → F1 c = F c := fun c hc hne => (hfk c hc).2 hne
  have hA := sm_pass (a := a) hm hs.1 hu.1 hsn
  rw [show ad 0 = ad1 0 from ha0.symm, show ad 300 = ad1 300 from (had 300 (by decide)).symm, show ad 400 = ad1 400 from (had 400 (by decide)).symm]
  have hM1 := hM.keptK (fun c hc _ => had c hc) hFk
  have hMd := hM1.1
  unfold mObj at hMd
  refine V_istore C dL_law_811 (by decide) ?_
  refine V_aload_n C dL_law_813 rfl ?_
  refine V_aload_n C dL_law_814 rfl ?_
  refine V_iload C dL_law_815 rfl ?_
  refine V_iconst (v := 1) C dL_law_817 rfl ?_
  refine V_iadd C dL_law_818 ?_
  refine V_nm (nI_1 (3 * j)) ?_
  refine V_sld C hS dL_law_819 rfl (by omega) (by omega) ?_
  refine V_nm ea.symm ?_
  refine V_invV C dL_law_820 hMd rfl (m_pass u th a hM1 hu.1 hun) mv_L_141 rfl (Nat.le_of_ble_eq_true rfl) ⟨Nat.le_of_ble_eq_true rfl, Nat.le_of_ble_eq_true rfl⟩ ⟨(by show 50 + 13 * j + 13 + 0 ≤ 601024; omega), (by show 12000 + 900 * j + 900 + 0 ≤ 7293033; omega)⟩ (fun _ _ _ h => VT_no h) (fun v ad1 F2 hp => ?_)
  obtain ⟨rfl, rfl, hM2, hfm⟩ := hp
  have h402 := (hfm 400 (Or.inr (Nat.le_refl _))).2.trans h401
  have hC2 := hC1.keptF (ok_pass hs hsn).1 (fun c hc => (hfm c (Or.inl hc)).2)
  have hMd2 := hM2.1
  unfold mObj at hMd2
  refine V_istore C dL_law_823 (by decide) ?_
  refine V_aload_n C dL_law_825 rfl ?_
  refine V_invV C dL_law_826 hMd2 rfl (m_thrown _ _ _ _ _ hM2.1) mv_L_90 rfl (Nat.le_of_ble_eq_true rfl) ⟨Nat.le_of_ble_eq_true rfl, Nat.le_of_ble_eq_true rfl⟩ ⟨(by show 50 + 13 * j + 13 + 0 + 0 ≤ 601024; omega), (by show 12000 + 900 * j + 900 + 0 + 0 ≤ 7293033; omega)⟩ (fun _ _ _ h => VT_no h) (fun v ad2 F3 hp => ?_)
  obtain ⟨rfl, rfl, rfl⟩ := hp
  refine V_iload C dL_law_829 rfl ?_
  refine V_icmpeq_t (tgt := 836) C dL_law_831 (by decide) (by rw [hA.1]) ?_
  refine V_iload C dL_law_836 rfl ?_
  refine V_ifne (tgt := 853) C dL_law_838 (by decide) (fun h5 => ?_) (fun h5 => ?_)
  · refine V_goto (tgt := 1408) C dL_law_853 (by decide) ?_
    refine V_wide (by show 50 + 13 * j + 13 ≤ 50 + 13 * j + 13; omega) (by show 12000 + 900 * j + 900 ≤ 12000 + 900 * j + 900; omega) ?_
    exact V_sb (nx _ _ ad1 F2 _ (ok_pass hs hsn) (ok_pass hu hun) hA.2.2 (Nat.le_trans nw_spPass (by omega)) hC2 hM2 ⟨f1, h402⟩) ⟨rfl, rfl, rfl, rfl, rfl, trivial⟩
  · have h0 : (spPass s a).1 = 0 := (nI_eq (b := 0) (by have := lt_spPass (s := s) (a := a); omega) (by decide)).mp h5
    refine V_aload_n C dL_law_841 rfl ?_
    refine V_iconst (v := 0) C dL_law_842 rfl ?_
    refine V_lald C dL_law_843 h402 (show (0 : Int32) = nI 0 from rfl) (by decide) (by decide) ?_
    refine V_iload C dL_law_844 rfl ?_
    refine V_i2l C dL_law_846 rfl ?_
    refine V_lcmp C dL_law_847 ?_
    refine V_nm (show _ = (0 : Int32) by rw [hf1 h0, hA.2.1]; exact lg_self _) ?_
    refine V_ifeq_t (tgt := 853) C dL_law_848 (by decide) rfl ?_
    refine V_goto (tgt := 1408) C dL_law_853 (by decide) ?_
    refine V_wide (by show 50 + 13 * j + 13 ≤ 50 + 13 * j + 13; omega) (by show 12000 + 900 * j + 900 ≤ 12000 + 900 * j + 900; omega) ?_
    exact V_sb (nx _ _ ad1 F2 _ (ok_pass hs hsn) (ok_pass hu hun) hA.2.2 (Nat.le_trans nw_spPass (by omega)) hC2 hM2 ⟨f1, h402⟩) ⟨rfl, rfl, rfl, rfl, rfl, trivial⟩
set_option maxHeartbeats 4000000 in
set_option maxRecDepth 100000 in
theorem law_15 {X : Cxt} {nm : String} {tb : List ExceptionTableEntry} (C : Ok X cL_law 7 ⟨RL, nm, ""⟩ room_1 ret tb) {b L : Nat} {sc : Nat → Int32} (hS : Scr X b L sc) (hL : L ≤ 1536) {j : Nat} (hj : j < 512) (h3 : 3 * j + 3 ≤ L) {s u : St} {ad : Nat → Nat} {F : Fn} {th : Int32} (hs : Kp s) (hu : Kp u) (hm : Sim s u) (hn : zNow s ≤ 200 * j) (hC : CRep (xD X) ad F s) (hM : MRep (xD X) ad F u th) {f0 : Nat → Int64} (h400 : F 400 = some (aJ (xD X) 1 f0)) (nx : NX X b j) : V X (50 + 13 * j) (12000 + 900 * j) 856 [(0, .ref b), (1, .ref (ad 0)), (2, .ref (ad 300)), (3, .ref (ad 400)), (4, .int (nI (3 * j)))] [] ad F := by
  have hun : zNow u ≤ 190000 := by rw [hm.1.1]; omega
  have hsn : zNow s ≤ 190000 := by omega
  have hCl := hC.1
  unfold kMain at hCl
  refine V_aload_n C dL_law_856 rfl ?_
  refine V_invV C dL_law_857 hCl rfl (c_time s hC hs.1) mv_L_142 rfl (Nat.le_of_ble_eq_true rfl) ⟨Nat.le_of_ble_eq_true rfl, Nat.le_of_ble_eq_true rfl⟩ ⟨(by show 50 + 13 * j + 1 ≤ 601024; omega), (by show 12000 + 900 * j + 6 ≤ 7293033; omega)⟩ (fun _ _ _ h => VT_no h) (fun v ad1 F1 hp => ?_)
  obtain ⟨-, rfl, hC1, hfk⟩ := hp
  have ha0 := hfk.a0
  have h401 := (hfk 400 (by decide)).2.trans h400
  have had : ∀ c, 300 ≤ c → ad1 c = ad c := fun c hc => hfk.ad hc
  have hFk : ∀ c, 300 ≤ c → c ≠ 400 → F1 c = F c := fun c hc _ => (hfk c hc).2
  have hA := sm_time hm
  rw [show ad 0 = ad1 0 from ha0.symm, show ad 300 = ad1 300 from (had 300 (by decide)).symm, show ad 400 = ad1 400 from (had 400 (by decide)).symm]
  have hM1 := hM.keptK (fun c hc _ => had c hc) hFk
  have hMd := hM1.1
  unfold mObj at hMd
  refine V_aload_n C dL_law_860 rfl ?_
  refine V_invV C dL_law_861 hMd rfl (m_time u th hM1) mv_L_145 rfl (Nat.le_of_ble_eq_true rfl) ⟨Nat.le_of_ble_eq_true rfl, Nat.le_of_ble_eq_true rfl⟩ ⟨(by show 50 + 13 * j + 1 + 0 ≤ 601024; omega), (by show 12000 + 900 * j + 6 + 0 ≤ 7293033; omega)⟩ (fun _ _ _ h => VT_no h) (fun v ad1 F2 hp => ?_)
  obtain ⟨rfl, rfl, hM2, hfm⟩ := hp
  have h402 := (hfm 400 (Or.inr (Nat.le_refl _))).2.trans h401
  have hC2 := hC1.keptF hs.1 (fun c hc => (hfm c (Or.inl hc)).2)
  refine V_icmpeq_t (tgt := 1408) C dL_law_864 (by decide) hA.2.1.symm ?_
  refine V_wide (by show 50 + 13 * j + 1 ≤ 50 + 13 * j + 13; omega) (by show 12000 + 900 * j + 6 ≤ 12000 + 900 * j + 900; omega) ?_
  exact V_sb (nx _ _ ad1 F2 _ hs hu hA.2.2 (Nat.le_trans nw_spTime (by omega)) hC2 hM2 ⟨f0, h402⟩) ⟨rfl, rfl, rfl, rfl, rfl, trivial⟩
set_option maxHeartbeats 4000000 in
set_option maxRecDepth 100000 in
theorem law_16 {X : Cxt} {nm : String} {tb : List ExceptionTableEntry} (C : Ok X cL_law 7 ⟨RL, nm, ""⟩ room_1 ret tb) {b L : Nat} {sc : Nat → Int32} (hS : Scr X b L sc) (hL : L ≤ 1536) {j : Nat} (hj : j < 512) (h3 : 3 * j + 3 ≤ L) {s u : St} {ad : Nat → Nat} {F : Fn} {th : Int32} (hs : Kp s) (hu : Kp u) (hm : Sim s u) (hn : zNow s ≤ 200 * j) (hC : CRep (xD X) ad F s) (hM : MRep (xD X) ad F u th) {f0 : Nat → Int64} (h400 : F 400 = some (aJ (xD X) 1 f0)) (nx : NX X b j) : V X (50 + 13 * j) (12000 + 900 * j) 869 [(0, .ref b), (1, .ref (ad 0)), (2, .ref (ad 300)), (3, .ref (ad 400)), (4, .int (nI (3 * j)))] [] ad F := by
  have hun : zNow u ≤ 190000 := by rw [hm.1.1]; omega
  have hsn : zNow s ≤ 190000 := by omega
  obtain ⟨a, ea⟩ : ∃ a, a = sc (3 * j + 1) := ⟨_, rfl⟩
  refine V_aload_n C dL_law_869 rfl ?_
  refine V_aload_n C dL_law_870 rfl ?_
  refine V_iload C dL_law_871 rfl ?_
  refine V_iconst (v := 1) C dL_law_873 rfl ?_
  refine V_iadd C dL_law_874 ?_
  refine V_nm (nI_1 (3 * j)) ?_
  refine V_sld C hS dL_law_875 rfl (by omega) (by omega) ?_
  refine V_nm ea.symm ?_
  refine V_aload_n C dL_law_876 rfl ?_
  refine V_invH C dL_law_877 (w_toggleLink s a f0 hC hs.1 h400 (ok_tog hs).1) mh_L_146 rfl (Nat.le_of_ble_eq_true rfl) ⟨Nat.le_of_ble_eq_true rfl, Nat.le_of_ble_eq_true rfl⟩ ⟨(by show 50 + 13 * j + 13 ≤ 601024; omega), (by show 12000 + 900 * j + 900 ≤ 7293033; omega)⟩ (fun _ _ _ h => VT_no h) (fun v ad1 F1 hp => ?_)
  obtain ⟨rfl, hC1, ⟨f1, h401, hf1⟩, hfk, ha0⟩ := hp
  have had := fun c hc => (hfk c hc).1
  have hFk : ∀ c, 300 ≤ c → c ≠ 400 → F1 c = F c := fun c hc hne => (hfk c hc).2 hne
  have hA := sm_tog (a := a) hm
  rw [show ad 0 = ad1 0 from ha0.symm, show ad 300 = ad1 300 from (had 300 (by decide)).symm, show ad 400 = ad1 400 from (had 400 (by decide)).symm]
  have hM1 := hM.keptK (fun c hc _ => had c hc) hFk
  have hMd := hM1.1
  unfold mObj at hMd
  refine V_istore C dL_law_880 (by decide) ?_
  refine V_aload_n C dL_law_882 rfl ?_
  refine V_aload_n C dL_law_883 rfl ?_
  refine V_iload C dL_law_884 rfl ?_
  refine V_iconst (v := 1) C dL_law_886 rfl ?_
  refine V_iadd C dL_law_887 ?_
  refine V_nm (nI_1 (3 * j)) ?_
  refine V_sld C hS dL_law_888 rfl (by omega) (by omega) ?_
  refine V_nm ea.symm ?_
  refine V_invV C dL_law_889 hMd rfl (m_toggleLink u th a hM1 hu.1) mv_L_148 rfl (Nat.le_of_ble_eq_true rfl) ⟨Nat.le_of_ble_eq_true rfl, Nat.le_of_ble_eq_true rfl⟩ ⟨(by show 50 + 13 * j + 13 + 0 ≤ 601024; omega), (by show 12000 + 900 * j + 900 + 0 ≤ 7293033; omega)⟩ (fun _ _ _ h => VT_no h) (fun v ad1 F2 hp => ?_)
  obtain ⟨rfl, rfl, hM2, hfm⟩ := hp
  have h402 := (hfm 400 (Or.inr (Nat.le_refl _))).2.trans h401
  have hC2 := hC1.keptF (ok_tog hs).1 (fun c hc => (hfm c (Or.inl hc)).2)
  have hMd2 := hM2.1
  unfold mObj at hMd2
  refine V_istore C dL_law_892 (by decide) ?_
  refine V_aload_n C dL_law_894 rfl ?_
  refine V_invV C dL_law_895 hMd2 rfl (m_thrown _ _ _ _ _ hM2.1) mv_L_90 rfl (Nat.le_of_ble_eq_true rfl) ⟨Nat.le_of_ble_eq_true rfl, Nat.le_of_ble_eq_true rfl⟩ ⟨(by show 50 + 13 * j + 13 + 0 + 0 ≤ 601024; omega), (by show 12000 + 900 * j + 900 + 0 + 0 ≤ 7293033; omega)⟩ (fun _ _ _ h => VT_no h) (fun v ad2 F3 hp => ?_)
  obtain ⟨rfl, rfl, rfl⟩ := hp
  refine V_iload C dL_law_898 rfl ?_
  refine V_icmpeq_t (tgt := 905) C dL_law_900 (by decide) (by rw [hA.1]) ?_
  refine V_iload C dL_law_905 rfl ?_
  refine V_ifne (tgt := 929) C dL_law_907 (by decide) (fun h5 => ?_) (fun h5 => ?_)
  · refine V_goto (tgt := 1408) C dL_law_929 (by decide) ?_
    refine V_wide (by show 50 + 13 * j + 13 ≤ 50 + 13 * j + 13; omega) (by show 12000 + 900 * j + 900 ≤ 12000 + 900 * j + 900; omega) ?_
    exact V_sb (nx _ _ ad1 F2 _ (ok_tog hs) (ok_tog hu) hA.2.2 (Nat.le_trans nw_spTog (by omega)) hC2 hM2 ⟨f1, h402⟩) ⟨rfl, rfl, rfl, rfl, rfl, trivial⟩
  · have h0 : (spTog s a).1 = 0 := (nI_eq (b := 0) (by have := lt_spTog (s := s) (a := a); omega) (by decide)).mp h5
    refine V_aload_n C dL_law_910 rfl ?_
    refine V_iconst (v := 0) C dL_law_911 rfl ?_
    refine V_lald C dL_law_912 h402 (show (0 : Int32) = nI 0 from rfl) (by decide) (by decide) ?_
    refine V_iload C dL_law_913 rfl ?_
    have h01 : (spTog u a).2.1 = 0 ∨ (spTog u a).2.1 = 1 := tog01 u a
    refine V_ifeq (tgt := 922) C dL_law_915 (by decide) (fun h6 => ?_) (fun h6 => ?_)
    · refine V_lconst C dL_law_922 rfl ?_
      refine V_lcmp C dL_law_923 ?_
      refine V_nm (show _ = (0 : Int32) by rw [hf1 h0, ← hA.2.1, h6]; exact lg_self _) ?_
      refine V_ifeq_t (tgt := 929) C dL_law_924 (by decide) rfl ?_
      refine V_goto (tgt := 1408) C dL_law_929 (by decide) ?_
      refine V_wide (by show 50 + 13 * j + 13 ≤ 50 + 13 * j + 13; omega) (by show 12000 + 900 * j + 900 ≤ 12000 + 900 * j + 900; omega) ?_
      exact V_sb (nx _ _ ad1 F2 _ (ok_tog hs) (ok_tog hu) hA.2.2 (Nat.le_trans nw_spTog (by omega)) hC2 hM2 ⟨f1, h402⟩) ⟨rfl, rfl, rfl, rfl, rfl, trivial⟩
    · refine V_lconst C dL_law_918 rfl ?_
      refine V_goto (tgt := 923) C dL_law_919 (by decide) ?_
      refine V_lcmp C dL_law_923 ?_
      refine V_nm (show _ = (0 : Int32) by rw [hf1 h0, ← hA.2.1, h01.resolve_left h6]; exact lg_self _) ?_
      refine V_ifeq_t (tgt := 929) C dL_law_924 (by decide) rfl ?_
      refine V_goto (tgt := 1408) C dL_law_929 (by decide) ?_
      refine V_wide (by show 50 + 13 * j + 13 ≤ 50 + 13 * j + 13; omega) (by show 12000 + 900 * j + 900 ≤ 12000 + 900 * j + 900; omega) ?_
      exact V_sb (nx _ _ ad1 F2 _ (ok_tog hs) (ok_tog hu) hA.2.2 (Nat.le_trans nw_spTog (by omega)) hC2 hM2 ⟨f1, h402⟩) ⟨rfl, rfl, rfl, rfl, rfl, trivial⟩
