/-! ===== the law: isDone ===== -/
set_option maxHeartbeats 2000000 in
set_option maxRecDepth 100000 in
/-- isDone -/
theorem l_isDone {l : Launch} {D : Dx} {b0 : Nat} {ad : Nat → Nat} {F : Fn} (s : St) (pl : Nat) (hC : CRep D ad F s) (hQ : Kq s) (hb : zNow s ≤ 180000) (hR : LR D F s (zSt s) (zRcp s).length) (hpl : pl < 2 ^ 20) : Ct l D b0 yL_isDone (wsA yL_isDone cL_isDone 14 (some .boolean)) rDone [.ref (ad 0), .ref D.2.2.2.1, .int (nI pl), .ref (ad 400), .ref (ad 401), .ref (ad 402), .ref (ad 403)] ad F (Done D ad F s) noX := by
  refine Ct.of (by decide +kernel) (by simp [Value.category]) (Nat.le_of_ble_eq_true rfl) (fun X eD eb el C Q => ?_)
  subst eD; subst eb; subst el
  refine V_aload_n C dL_isDone_0 rfl ?_
  refine V_iload_n C dL_isDone_1 rfl ?_
  refine V_bipush (v := 40) C dL_isDone_2 (by decide) ?_
  refine V_invS C dL_isDone_4 (l_part _ 40 (by omega) (by decide) (by decide)) ms_L_114 rfl (Nat.le_of_ble_eq_true rfl) ⟨Nat.le_of_ble_eq_true rfl, Nat.le_of_ble_eq_true rfl⟩ ⟨(Nat.le_of_ble_eq_true rfl), (Nat.le_of_ble_eq_true rfl)⟩ (fun _ _ _ h => VT_no h) (fun v ad1 F1 hp => ?_)
  obtain ⟨⟨c, hc, rfl⟩, rfl, rfl⟩ := hp
  refine V_istore C dL_isDone_7 (by decide) ?_
  refine V_aload_n C dL_isDone_9 rfl ?_
  refine V_iload_n C dL_isDone_10 rfl ?_
  refine V_iconst (v := 1) C dL_isDone_11 rfl ?_
  refine V_iadd C dL_isDone_12 ?_
  refine V_nm (nI_1 pl) ?_
  refine V_sipush (v := 6000) C dL_isDone_13 (by decide) ?_
  refine V_invS C dL_isDone_16 (l_part _ 6000 (by omega) (by decide) (by decide)) ms_L_114 rfl (Nat.le_of_ble_eq_true rfl) ⟨Nat.le_of_ble_eq_true rfl, Nat.le_of_ble_eq_true rfl⟩ ⟨(Nat.le_of_ble_eq_true rfl), (Nat.le_of_ble_eq_true rfl)⟩ (fun _ _ _ h => VT_no h) (fun v ad2 F2 hp => ?_)
  obtain ⟨⟨o, ho, rfl⟩, rfl, rfl⟩ := hp
  refine V_istore C dL_isDone_19 (by decide) ?_
  refine V_aload_n C dL_isDone_21 rfl ?_
  refine V_iload_n C dL_isDone_22 rfl ?_
  refine V_iconst (v := 2) C dL_isDone_23 rfl ?_
  refine V_iadd C dL_isDone_24 ?_
  refine V_nm (nI_add pl 2) ?_
  refine V_sipush (v := 7000) C dL_isDone_25 (by decide) ?_
  refine V_invS C dL_isDone_28 (l_part _ 7000 (by omega) (by decide) (by decide)) ms_L_114 rfl (Nat.le_of_ble_eq_true rfl) ⟨Nat.le_of_ble_eq_true rfl, Nat.le_of_ble_eq_true rfl⟩ ⟨(Nat.le_of_ble_eq_true rfl), (Nat.le_of_ble_eq_true rfl)⟩ (fun _ _ _ h => VT_no h) (fun v ad3 F3 hp => ?_)
  obtain ⟨⟨t, ht, rfl⟩, rfl, rfl⟩ := hp
  refine V_istore C dL_isDone_31 (by decide) ?_
  refine V_iload C dL_isDone_33 rfl ?_
  refine V_bipush (v := 10) C dL_isDone_35 (by decide) ?_
  by_cases hq0 : c < 10
  · refine V_icmpge_f (tgt := 112) C dL_isDone_37 (by decide) (nI_ge (b := 10) hq0 (by decide)) ?_
    exact V_sb (dn_write s o t C Q hC hQ hb hR ho ht) ⟨rfl, rfl, rfl, rfl, rfl, rfl, rfl, trivial⟩
  · refine V_icmpge_t (tgt := 112) C dL_isDone_37 (by decide) (nI_le (a := 10) (Nat.le_of_not_lt hq0) (by omega)) ?_
    refine V_iload C dL_isDone_112 rfl ?_
    refine V_bipush (v := 16) C dL_isDone_114 (by decide) ?_
    by_cases hq1 : c < 16
    · refine V_icmpge_f (tgt := 153) C dL_isDone_116 (by decide) (nI_ge (b := 16) hq1 (by decide)) ?_
      exact V_sb (dn_submit s o t C Q hC hQ hb hR ho ht) ⟨rfl, rfl, rfl, rfl, rfl, rfl, rfl, trivial⟩
    · refine V_icmpge_t (tgt := 153) C dL_isDone_116 (by decide) (nI_le (a := 16) (Nat.le_of_not_lt hq1) (by omega)) ?_
      refine V_iload C dL_isDone_153 rfl ?_
      refine V_bipush (v := 22) C dL_isDone_155 (by decide) ?_
      by_cases hq2 : c < 22
      · refine V_icmpge_f (tgt := 193) C dL_isDone_157 (by decide) (nI_ge (b := 22) hq2 (by decide)) ?_
        exact V_sb (dn_pass s o t C Q hC hQ hb hR ho ht) ⟨rfl, rfl, rfl, rfl, rfl, rfl, rfl, trivial⟩
      · refine V_icmpge_t (tgt := 193) C dL_isDone_157 (by decide) (nI_le (a := 22) (Nat.le_of_not_lt hq2) (by omega)) ?_
        refine V_iload C dL_isDone_193 rfl ?_
        refine V_bipush (v := 29) C dL_isDone_195 (by decide) ?_
        by_cases hq3 : c < 29
        · refine V_icmpge_f (tgt := 230) C dL_isDone_197 (by decide) (nI_ge (b := 29) hq3 (by decide)) ?_
          exact V_sb (dn_ack s o t C Q hC hQ hb hR ho ht) ⟨rfl, rfl, rfl, rfl, rfl, rfl, rfl, trivial⟩
        · refine V_icmpge_t (tgt := 230) C dL_isDone_197 (by decide) (nI_le (a := 29) (Nat.le_of_not_lt hq3) (by omega)) ?_
          refine V_iload C dL_isDone_230 rfl ?_
          refine V_bipush (v := 31) C dL_isDone_232 (by decide) ?_
          by_cases hq4 : c < 31
          · refine V_icmpge_f (tgt := 305) C dL_isDone_234 (by decide) (nI_ge (b := 31) hq4 (by decide)) ?_
            exact V_sb (dn_toggle s o t C Q hC hQ hb hR ho ht) ⟨rfl, rfl, rfl, rfl, rfl, rfl, rfl, trivial⟩
          · refine V_icmpge_t (tgt := 305) C dL_isDone_234 (by decide) (nI_le (a := 31) (Nat.le_of_not_lt hq4) (by omega)) ?_
            refine V_iload C dL_isDone_305 rfl ?_
            refine V_bipush (v := 31) C dL_isDone_307 (by decide) ?_
            by_cases hq5 : c = 31
            · refine V_icmpne_f (tgt := 397) C dL_isDone_309 (by decide) (congrArg nI hq5) ?_
              exact V_sb (dn_window s o t C Q hC hQ hb hR ho ht) ⟨rfl, rfl, rfl, rfl, rfl, rfl, rfl, trivial⟩
            · refine V_icmpne_t (tgt := 397) C dL_isDone_309 (by decide) (fun e => hq5 ((nI_eq (b := 31) (by omega) (by decide)).mp e)) ?_
              refine V_iload C dL_isDone_397 rfl ?_
              refine V_bipush (v := 34) C dL_isDone_399 (by decide) ?_
              by_cases hq6 : c < 34
              · refine V_icmpge_f (tgt := 469) C dL_isDone_401 (by decide) (nI_ge (b := 34) hq6 (by decide)) ?_
                exact V_sb (dn_alert s o t C Q hC hQ hb hR ho ht) ⟨rfl, rfl, rfl, rfl, rfl, rfl, rfl, trivial⟩
              · refine V_icmpge_t (tgt := 469) C dL_isDone_401 (by decide) (nI_le (a := 34) (Nat.le_of_not_lt hq6) (by omega)) ?_
                refine V_iload C dL_isDone_469 rfl ?_
                refine V_bipush (v := 38) C dL_isDone_471 (by decide) ?_
                by_cases hq7 : c < 38
                · refine V_icmpge_f (tgt := 508) C dL_isDone_473 (by decide) (nI_ge (b := 38) hq7 (by decide)) ?_
                  exact V_sb (dn_come s o t C Q hC hQ hb hR ho ht) ⟨rfl, rfl, rfl, rfl, rfl, rfl, rfl, trivial⟩
                · refine V_icmpge_t (tgt := 508) C dL_isDone_473 (by decide) (nI_le (a := 38) (Nat.le_of_not_lt hq7) (by omega)) ?_
                  refine V_iload C dL_isDone_508 rfl ?_
                  refine V_bipush (v := 38) C dL_isDone_510 (by decide) ?_
                  by_cases hq8 : c = 38
                  · refine V_icmpne_f (tgt := 647) C dL_isDone_512 (by decide) (congrArg nI hq8) ?_
                    exact V_sb (dn_key s o t C Q hC hQ hb hR ho ht) ⟨rfl, rfl, rfl, rfl, rfl, rfl, rfl, trivial⟩
                  · refine V_icmpne_t (tgt := 647) C dL_isDone_512 (by decide) (fun e => hq8 ((nI_eq (b := 38) (by omega) (by decide)).mp e)) ?_
                    exact V_sb (dn_erase s o t C Q hC hQ hb hR ho ht) ⟨rfl, rfl, rfl, rfl, rfl, rfl, rfl, trivial⟩
