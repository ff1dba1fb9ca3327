/-! ===== the law's loop, and its start ===== -/
set_option maxHeartbeats 4000000 in
set_option maxRecDepth 100000 in
theorem law_sw {X : Cxt} {nm : String} {tb : List ExceptionTableEntry} (C : Ok X cL_law 7 ⟨RL, nm, ""⟩ room_1 ret tb) {b L : Nat} {sc : Nat → Int32} (hS : Scr X b L sc) (hL : L ≤ 1536) {j : Nat} (hj : j < 512) (h3 : 3 * j + 3 ≤ L) {s u : St} {ad : Nat → Nat} {F : Fn} {th : Int32} (hs : Kp s) (hu : Kp u) (hm : Sim s u) (hn : zNow s ≤ 200 * j) (hC : CRep (xD X) ad F s) (hM : MRep (xD X) ad F u th) {f0 : Nat → Int64} (h400 : F 400 = some (aJ (xD X) 1 f0)) (nx : NX X b j) : V X (50 + 13 * j) (12000 + 900 * j) 39 [(0, .ref b), (1, .ref (ad 0)), (2, .ref (ad 300)), (3, .ref (ad 400)), (4, .int (nI (3 * j)))] [.int (sc (3 * j) &&& 31)] ad F := by
  obtain ⟨t, ht, e⟩ := pk_andE (sc (3 * j)) (m := 31) 5 (by decide)
  refine V_nm e ?_
  have hi : (nI t).toInt = (t : Int) := nI_toInt (by omega)
  by_cases h25 : 25 ≤ t
  · refine V_tabOut (tgt := 1408) C dL_law_39 (Or.inr (by rw [hi]; omega)) (by decide) ?_
    refine V_wide (by show 50 + 13 * j ≤ 50 + 13 * j + 13; omega) (by show 12000 + 900 * j ≤ 12000 + 900 * j + 900; omega) ?_
    exact V_sb (nx s u ad F th hs hu hm (by omega) hC hM ⟨f0, h400⟩) ⟨rfl, rfl, rfl, rfl, rfl, trivial⟩
  · rcases (show t = 0 ∨ t = 1 ∨ t = 2 ∨ t = 3 ∨ t = 4 ∨ t = 5 ∨ t = 6 ∨ t = 7 ∨ t = 8 ∨ t = 9 ∨ t = 10 ∨ t = 11 ∨ t = 12 ∨ t = 13 ∨ t = 14 ∨ t = 15 ∨ t = 16 ∨ t = 17 ∨ t = 18 ∨ t = 19 ∨ t = 20 ∨ t = 21 ∨ t = 22 ∨ t = 23 ∨ t = 24 by omega) with rfl | rfl | rfl | rfl | rfl | rfl | rfl | rfl | rfl | rfl | rfl | rfl | rfl | rfl | rfl | rfl | rfl | rfl | rfl | rfl | rfl | rfl | rfl | rfl | rfl
    · exact V_tabIn (tgt := 152) (off := 113) C dL_law_39 (by decide) (by decide) (by decide) (by decide) (law_0 C hS hL hj h3 hs hu hm hn hC hM h400 nx)
    · exact V_tabIn (tgt := 220) (off := 181) C dL_law_39 (by decide) (by decide) (by decide) (by decide) (law_1 C hS hL hj h3 hs hu hm hn hC hM h400 nx)
    · exact V_tabIn (tgt := 233) (off := 194) C dL_law_39 (by decide) (by decide) (by decide) (by decide) (law_2 C hS hL hj h3 hs hu hm hn hC hM h400 nx)
    · exact V_tabIn (tgt := 246) (off := 207) C dL_law_39 (by decide) (by decide) (by decide) (by decide) (law_3 C hS hL hj h3 hs hu hm hn hC hM h400 nx)
    · exact V_tabIn (tgt := 290) (off := 251) C dL_law_39 (by decide) (by decide) (by decide) (by decide) (law_4 C hS hL hj h3 hs hu hm hn hC hM h400 nx)
    · exact V_tabIn (tgt := 303) (off := 264) C dL_law_39 (by decide) (by decide) (by decide) (by decide) (law_5 C hS hL hj h3 hs hu hm hn hC hM h400 nx)
    · exact V_tabIn (tgt := 359) (off := 320) C dL_law_39 (by decide) (by decide) (by decide) (by decide) (law_6 C hS hL hj h3 hs hu hm hn hC hM h400 nx)
    · exact V_tabIn (tgt := 415) (off := 376) C dL_law_39 (by decide) (by decide) (by decide) (by decide) (law_7 C hS hL hj h3 hs hu hm hn hC hM h400 nx)
    · exact V_tabIn (tgt := 483) (off := 444) C dL_law_39 (by decide) (by decide) (by decide) (by decide) (law_8 C hS hL hj h3 hs hu hm hn hC hM h400 nx)
    · exact V_tabIn (tgt := 551) (off := 512) C dL_law_39 (by decide) (by decide) (by decide) (by decide) (law_9 C hS hL hj h3 hs hu hm hn hC hM h400 nx)
    · exact V_tabIn (tgt := 607) (off := 568) C dL_law_39 (by decide) (by decide) (by decide) (by decide) (law_10 C hS hL hj h3 hs hu hm hn hC hM h400 nx)
    · exact V_tabIn (tgt := 663) (off := 624) C dL_law_39 (by decide) (by decide) (by decide) (by decide) (law_11 C hS hL hj h3 hs hu hm hn hC hM h400 nx)
    · exact V_tabIn (tgt := 731) (off := 692) C dL_law_39 (by decide) (by decide) (by decide) (by decide) (law_12 C hS hL hj h3 hs hu hm hn hC hM h400 nx)
    · exact V_tabIn (tgt := 744) (off := 705) C dL_law_39 (by decide) (by decide) (by decide) (by decide) (law_13 C hS hL hj h3 hs hu hm hn hC hM h400 nx)
    · exact V_tabIn (tgt := 800) (off := 761) C dL_law_39 (by decide) (by decide) (by decide) (by decide) (law_14 C hS hL hj h3 hs hu hm hn hC hM h400 nx)
    · exact V_tabIn (tgt := 856) (off := 817) C dL_law_39 (by decide) (by decide) (by decide) (by decide) (law_15 C hS hL hj h3 hs hu hm hn hC hM h400 nx)
    · exact V_tabIn (tgt := 869) (off := 830) C dL_law_39 (by decide) (by decide) (by decide) (by decide) (law_16 C hS hL hj h3 hs hu hm hn hC hM h400 nx)
    · exact V_tabIn (tgt := 932) (off := 893) C dL_law_39 (by decide) (by decide) (by decide) (by decide) (law_17 C hS hL hj h3 hs hu hm hn hC hM h400 nx)
    · exact V_tabIn (tgt := 1000) (off := 961) C dL_law_39 (by decide) (by decide) (by decide) (by decide) (law_18 C hS hL hj h3 hs hu hm hn hC hM h400 nx)
    · exact V_tabIn (tgt := 1056) (off := 1017) C dL_law_39 (by decide) (by decide) (by decide) (by decide) (law_19 C hS hL hj h3 hs hu hm hn hC hM h400 nx)
    · exact V_tabIn (tgt := 1112) (off := 1073) C dL_law_39 (by decide) (by decide) (by decide) (by decide) (law_20 C hS hL hj h3 hs hu hm hn hC hM h400 nx)
    · exact V_tabIn (tgt := 1168) (off := 1129) C dL_law_39 (by decide) (by decide) (by decide) (by decide) (law_21 C hS hL hj h3 hs hu hm hn hC hM h400 nx)
    · exact V_tabIn (tgt := 1236) (off := 1197) C dL_law_39 (by decide) (by decide) (by decide) (by decide) (law_22 C hS hL hj h3 hs hu hm hn hC hM h400 nx)
    · exact V_tabIn (tgt := 1292) (off := 1253) C dL_law_39 (by decide) (by decide) (by decide) (by decide) (law_23 C hS hL hj h3 hs hu hm hn hC hM h400 nx)
    · exact V_tabIn (tgt := 1340) (off := 1301) C dL_law_39 (by decide) (by decide) (by decide) (by decide) (law_24 C hS hL hj h3 hs hu hm hn hC hM h400 nx)
set_option maxHeartbeats 4000000 in
set_option maxRecDepth 100000 in
theorem law_loop {X : Cxt} {nm : String} {tb : List ExceptionTableEntry} (C : Ok X cL_law 7 ⟨RL, nm, ""⟩ room_1 ret tb) {b L : Nat} {sc : Nat → Int32} (hS : Scr X b L sc) (hL : L ≤ 1536) (hend : ∀ (k n : Nat) (lv : Lv) (ad : Nat → Nat) (F : Fn), k ≤ 601024 → n ≤ 7293033 → V X k n 1415 lv [.int 1] ad F) : ∀ (d j : Nat) (s u : St) (ad : Nat → Nat) (F : Fn) (th : Int32), j + d = 512 → Kp s → Kp u → Sim s u → zNow s ≤ 200 * j → CRep (xD X) ad F s → MRep (xD X) ad F u th → (∃ f : Nat → Int64, F 400 = some (aJ (xD X) 1 f)) → V X (50 + 13 * j) (12000 + 900 * j) 23 [(0, .ref b), (1, .ref (ad 0)), (2, .ref (ad 300)), (3, .ref (ad 400)), (4, .int (nI (3 * j)))] [] ad F := by
  intro d
  have exit : ∀ (j : Nat) (ad : Nat → Nat) (F : Fn), j ≤ 512 → L < 3 * j + 3 → V X (50 + 13 * j) (12000 + 900 * j) 23 [(0, .ref b), (1, .ref (ad 0)), (2, .ref (ad 300)), (3, .ref (ad 400)), (4, .int (nI (3 * j)))] [] ad F := by
    intro j ad F hj hx
    refine V_iload C dL_law_23 rfl ?_
    refine V_aload_n C dL_law_25 rfl ?_
    refine V_slen C hS dL_law_26 ?_
    refine V_iconst (v := 3) C dL_law_27 rfl ?_
    refine V_isub C dL_law_28 ?_
    refine V_icmpgt_t (tgt := 1414) C dL_law_29 (by decide) (lp_out hL (by omega) hx) ?_
    refine V_iconst (v := 1) C dL_law_1414 rfl ?_
    exact hend _ _ _ _ _ (by omega) (by omega)
  induction d with
  | zero =>
    intro j s u ad F th hd hs hu hm hn hC hM h400
    exact exit j ad F (by omega) (by omega)
  | succ d ih =>
    intro j s u ad F th hd hs hu hm hn hC hM h400
    by_cases hx : L < 3 * j + 3
    · exact exit j ad F (by omega) hx
    · obtain ⟨f0, h400⟩ := h400
      refine V_iload C dL_law_23 rfl ?_
      refine V_aload_n C dL_law_25 rfl ?_
      refine V_slen C hS dL_law_26 ?_
      refine V_iconst (v := 3) C dL_law_27 rfl ?_
      refine V_isub C dL_law_28 ?_
      refine V_icmpgt_f (tgt := 1414) C dL_law_29 (by decide) (lp_in hL (by omega) (by omega)) ?_
      refine V_aload_n C dL_law_32 rfl ?_
      refine V_iload C dL_law_33 rfl ?_
      refine V_sld C hS dL_law_35 rfl (by omega) (by omega) ?_
      refine V_bipush (v := 31) C dL_law_36 (by decide) ?_
      refine V_iand C dL_law_38 ?_
      refine law_sw C hS hL (show j < 512 by omega) (by omega) hs hu hm hn hC hM h400 (fun s1 u1 ad1 F1 th1 g1 g2 g3 g4 g5 g6 g7 => ?_)
      refine V_iinc C dL_law_1408 rfl (show _ = nI (3 * (j + 1)) from (nI_add (3 * j) 3).trans (congrArg nI (by omega))) (by decide) ?_
      refine V_goto (tgt := 23) C dL_law_1411 (by decide) ?_
      exact V_sb (ih (j + 1) s1 u1 ad1 F1 th1 (by omega) g1 g2 g3 (by omega) g5 g6 g7) ⟨rfl, rfl, rfl, rfl, rfl, trivial⟩
theorem law_code : cL_law = code := rfl
set_option maxHeartbeats 4000000 in
set_option maxRecDepth 100000 in
/-- from the constructors to the loop -/
theorem law_begin {X : Cxt} {nm : String} {tb : List ExceptionTableEntry} (C : Ok X cL_law 7 ⟨RL, nm, ""⟩ room_1 ret tb) {b L : Nat} {sc : Nat → Int32} (hS : Scr X b L sc) (hL : L ≤ 1536) (hend : ∀ (k n : Nat) (lv : Lv) (ad : Nat → Nat) (F : Fn), k ≤ 601024 → n ≤ 7293033 → V X k n 1415 lv [.int 1] ad F) (hv : ∀ c : Nat, True) : V X 0 0 0 (enL 0 [.ref b]) [] (fun _ => 0) (fun _ => none) := by
  refine G_new 0 C dL_law_0 nw_L_8 rfl (Nat.le_of_ble_eq_true rfl) (Nat.le_of_ble_eq_true rfl) (fun ad1 F1 _ hCl hf1 => ?_)
  refine V_dup C dL_law_3 rfl ?_
  refine V_invI C dL_law_4 (c_Shortmessage_init hCl (fun x h1 h2 => hf1 x (by omega))) mi_L_80 rfl (Nat.le_of_ble_eq_true rfl) ⟨Nat.le_of_ble_eq_true rfl, Nat.le_of_ble_eq_true rfl⟩ ⟨Nat.le_of_ble_eq_true rfl, Nat.le_of_ble_eq_true rfl⟩ (fun _ _ _ h => VT_no h) (fun v ad2 F2 hp => ?_)
  obtain ⟨rfl, ha2, hC2, hf2⟩ := hp
  rw [show ad1 0 = ad2 0 from (ha2 0 (Or.inl rfl)).symm]
  refine V_astore_n C dL_law_7 (by decide) ?_
  refine G_new 300 C dL_law_8 nw_L_81 ((hf2 300 (by decide)).trans (hf1 300 (by decide))) (Nat.le_of_ble_eq_true rfl) (Nat.le_of_ble_eq_true rfl) (fun ad3 F3 ha3 hMd hf3 => ?_)
  rw [show ad2 0 = ad3 0 from (ha3 0 (by decide)).symm]
  refine V_dup C dL_law_11 rfl ?_
  refine V_invI C dL_law_12 (m_init hMd (fun x hx => ((hf3 x (by omega)).trans (hf2 x (by omega))).trans (hf1 x (by omega)))) mi_L_83 rfl (Nat.le_of_ble_eq_true rfl) ⟨Nat.le_of_ble_eq_true rfl, Nat.le_of_ble_eq_true rfl⟩ ⟨Nat.le_of_ble_eq_true rfl, Nat.le_of_ble_eq_true rfl⟩ (fun _ _ _ h => VT_no h) (fun v ad4 F4 hp => ?_)
  obtain ⟨rfl, ha4, hM4, hf4⟩ := hp
  rw [show ad3 0 = ad4 0 from (ha4 0 (by decide)).symm, show ad3 300 = ad4 300 from (ha4 300 (by decide)).symm]
  refine V_astore_n C dL_law_15 (by decide) ?_
  refine V_iconst (v := 1) C dL_law_16 rfl ?_
  refine G_newl 400 C dL_law_17 (inr_1 _ (List.mem_of_getElem? (i := 6) rfl)) ((((hf4 400 (Or.inr (Nat.le_refl _))).trans (hf3 400 (by decide))).trans (hf2 400 (by decide))).trans (hf1 400 (by decide))) (show (1 : Int32) = nI 1 from rfl) (by decide) (Nat.le_of_ble_eq_true rfl) (Nat.le_of_ble_eq_true rfl) (fun ad5 F5 ha5 h400 hf5 => ?_)
  rw [show ad4 0 = ad5 0 from (ha5 0 (by decide)).symm, show ad4 300 = ad5 300 from (ha5 300 (by decide)).symm]
  refine V_astore_n C dL_law_19 (by decide) ?_
  refine V_iconst (v := 0) C dL_law_20 rfl ?_
  refine V_nm (show (0 : Int32) = nI (3 * 0) from rfl) ?_
  refine V_istore C dL_law_21 (by decide) ?_
  have hC5 : CRep (xD X) ad5 F5 st0S := (hC2.ada ok_st0.1 (fun c hc => (ha5 c (by omega)).trans ((ha4 c (by omega)).trans (ha3 c (by omega))))).keptF ok_st0.1 (fun c hc => (hf5 c (by omega)).trans ((hf4 c (Or.inl hc)).trans (hf3 c (by omega))))
  have hM5 : MRep (xD X) ad5 F5 st0S 0 := hM4.keptK (fun c h1 h2 => ha5 c (by omega)) (fun c h1 h2 => hf5 c h2)
  refine V_wide (k' := 50 + 13 * 0) (n' := 12000 + 900 * 0) (Nat.le_of_ble_eq_true rfl) (Nat.le_of_ble_eq_true rfl) ?_
  exact V_sb (law_loop C hS hL hend 512 0 st0S st0S ad5 F5 0 rfl ok_st0 ok_st0 sim_0 (Nat.le_refl _) hC5 hM5 ⟨_, h400⟩) ⟨rfl, rfl, rfl, rfl, rfl, trivial⟩
