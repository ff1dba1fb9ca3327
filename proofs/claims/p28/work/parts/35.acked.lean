/-! ===== the law: isAcknowledged ===== -/
theorem sent_stl (t : St) (c o l : Nat) : zRw (stlS t c o) (2 * l + 1) = zRw t (2 * l + 1) := by
  unfold stlS
  split
  · split
    · exact sent_fin _ _ _ _
    · rfl
  · split
    · split
      · exact sent_pu _ _ _
      · exact sent_fin _ _ _ _
    · split
      · exact sent_pu _ _ _
      · exact sent_fin _ _ _ _
theorem ack_sent {s : St} {l o : Nat} (hc : 0 < (zRw s (2 * l + 1)).length) : (zRw (ackS s l o) (2 * l + 1)).length = (zRw s (2 * l + 1)).length - 1 := by
  have h : (zRw (rmS s l) (2 * l + 1)).length = (zRw s (2 * l + 1)).length - 1 := by
    rw [rmS_row, if_pos rfl, List.length_eraseIdx, if_pos hc]
  unfold ackS
  split
  · rw [sent_stl]; exact h
  · exact h
theorem rm_queue (s : St) (l : Nat) : zRw (rmS s l) (2 * l) = zRw s (2 * l) := by rw [rmS_row, if_neg (by omega)]
theorem ack_end {s : St} {l o c : Nat} (e : (zRw s (2 * l + 1)).getD 0 0 = c) (h0 : ¬ zSt s (mOf c) = 0) : zRw (ackS s l o) (2 * l) = zRw s (2 * l) ∧ zSt (ackS s l o) = zSt s := by
  rw [ack_no s l o c e h0]
  exact ⟨rm_queue s l, rfl⟩
theorem ack_0 {s : St} {l c : Nat} (hI : Inv s) (e : (zRw s (2 * l + 1)).getD 0 0 = c) (hm : mOf c < zMc s) (hp : pOf c < 6) (h0 : zSt s (mOf c) = 0) : (zLk (ackS s l 0) (mOf c)).testBit (pOf c) = false ∧ (zSt (ackS s l 0) (mOf c) = 0 ∨ zSt (ackS s l 0) (mOf c) = 1) := by
  rw [ack_st s l 0 c e h0]
  have hb : (zLk (clS (rmS s l) c) (mOf c)).testBit (pOf c) = false := by
    have h64 : zLk s (mOf c) < 64 := lk_64 hI hm
    rw [cl_lk, clr_ts _ (show zLk (rmS s l) (mOf c) < 64 from h64) _ hp _ hp]
    simp
  by_cases hz : zLk (clS (rmS s l) c) (mOf c) = 0
  · rw [st0f _ _ hz]
    exact ⟨hb, Or.inr up_s⟩
  · rw [st0 _ _ hz]
    exact ⟨hb, Or.inl h0⟩
theorem pu_len {t : St} {l c : Nat} (h : zRc t (mOf c) % 3 = l) : (zRw (puS t c) (2 * l)).length = (zRw t (2 * l)).length + 1 := by
  rw [puS_row, h, if_pos rfl, List.length_append]
  rfl
theorem ack_1 {s : St} {l c : Nat} (e : (zRw s (2 * l + 1)).getD 0 0 = c) (hl : zRc s (mOf c) % 3 = l) (h0 : zSt s (mOf c) = 0) : zSt (ackS s l 1) (mOf c) = 2 ∨ (zSt (ackS s l 1) (mOf c) = 0 ∧ (zRw (ackS s l 1) (2 * l)).length = (zRw s (2 * l)).length + 1) := by
  rw [ack_st s l 1 c e h0]
  by_cases hz : zPf (rmS s l) c + 1 < 4
  · rw [st1 _ _ hz]
    refine Or.inr ⟨h0, ?_⟩
    rw [pu_len (t := tmS (flS (rmS s l) c) c) hl]
    show (zRw (rmS s l) (2 * l)).length + 1 = _
    rw [rm_queue]
  · rw [st1f _ _ hz]
    exact Or.inl up_s
theorem ack_2 {s : St} {l c : Nat} (e : (zRw s (2 * l + 1)).getD 0 0 = c) (hl : zRc s (mOf c) % 3 = l) (h0 : zSt s (mOf c) = 0) : zSt (ackS s l 2) (mOf c) = 0 ∧ (zRw (ackS s l 2) (2 * l)).length = (zRw s (2 * l)).length + 1 := by
  rw [ack_st s l 2 c e h0, st2]
  refine ⟨h0, ?_⟩
  rw [pu_len (t := wtS (rmS s l) c) hl]
  show (zRw (rmS s l) (2 * l)).length + 1 = _
  rw [rm_queue]
theorem ack_3 {s : St} {l c : Nat} (e : (zRw s (2 * l + 1)).getD 0 0 = c) (h0 : zSt s (mOf c) = 0) : zSt (ackS s l 3) (mOf c) = 2 := by
  rw [ack_st s l 3 c e h0, st3]
  exact up_s
theorem cfg_stl (t : St) (c o : Nat) : cfg (stlS t c o) = cfg t := by
  unfold stlS
  (repeat' split) <;> rfl
theorem cfg_ack (s : St) (l o : Nat) : cfg (ackS s l o) = cfg s := by
  unfold ackS
  split
  · exact cfg_stl _ _ _
  · rfl
set_option maxHeartbeats 4000000 in
set_option maxRecDepth 100000 in
/-- isAcknowledged -/
theorem l_isAcknowledged {l : Launch} {D : Dx} {b0 : Nat} {ad : Nat → Nat} {F : Fn} (s : St) (x y rcn : Nat) (hC : CRep D ad F s) (hQ : Kq s) (hZ : LZ D F (zMc s) (zRc s) (zSt s) (zMs s)) (hG : LG D F (zTxt s) (zMc s) (zNow s) rcn) (hx : x < 4) (hy : y < 5) : Ct l D b0 yL_isAcknowledged (wsA yL_isAcknowledged cL_isAcknowledged 12 (some .boolean)) rAct [.ref (ad 0), .ref (ad 400), .ref (ad 401), .ref (ad 403), .int (nI x), .int (nI y)] ad F (PoL D ad F 1 (spAck s (nI x) (nI y)).2.2) noX := by
  refine Ct.of (by decide +kernel) (by simp [Value.category]) (Nat.le_of_ble_eq_true rfl) (fun X eD eb el C Q => ?_)
  subst eD; subst eb; subst el
  have hI := hQ.1.1
  have hF := hQ.1.2
  obtain ⟨g, h403, g0, g1, g2, g3, g4, g5⟩ := hG
  obtain ⟨z, h400, hz⟩ := hZ
  have h20 := hI.2.1
  have ex : (nI x).toNatClampNeg = x := nI_clamp (by omega)
  have ey : (nI y).toNatClampNeg = y := nI_clamp (by omega)
  have hK : FrK ad F ad F := FrK.rf
  have hQ2 := (kq_ack (a := nI x) (o := nI y) hQ).1
  have out3 : x = 3 → V X 0 0 12 [(0, .ref (ad 0)), (1, .ref (ad 400)), (2, .ref (ad 401)), (3, .ref (ad 403)), (4, .int (nI x)), (5, .int (nI y))] [] ad F := by
    intro h3
    have e : spAck s (nI x) (nI y) = (1, 0, s) := by
      unfold spAck
      rw [if_pos (Or.inr (by rw [h3]; decide))]
    rw [e] at Q
    refine V_aload_n C dL_isAcknowledged_12 rfl ?_
    refine V_iconst (v := 5) C dL_isAcknowledged_13 rfl ?_
    refine V_iload C dL_isAcknowledged_14 rfl ?_
    refine V_iload C dL_isAcknowledged_16 rfl ?_
    refine V_invH C dL_isAcknowledged_18 (d_acknowledge s (nI x) (nI y) hC hI hF) mh_L_107 rfl (Nat.le_of_ble_eq_true rfl) ⟨Nat.le_of_ble_eq_true rfl, Nat.le_of_ble_eq_true rfl⟩ ⟨(Nat.le_of_ble_eq_true rfl), (Nat.le_of_ble_eq_true rfl)⟩ (fun _ _ _ h => VT_no h) (fun v ad1 F1 hp => ?_)
    rw [e] at hp
    obtain ⟨rfl, hC, hfk⟩ := hp
    rw [show ad 0 = ad1 0 from hfk.a0.symm, show ad 400 = ad1 400 from (hfk.ad (by decide)).symm, show ad 401 = ad1 401 from (hfk.ad (by decide)).symm, show ad 403 = ad1 403 from (hfk.ad (by decide)).symm]
    have h400 := (hfk 400 (by decide)).2.trans h400
    have h403 := (hfk 403 (by decide)).2.trans h403
    have hK := hK.tr hfk
    refine V_nm xv_b ?_
    refine V_iload C dL_isAcknowledged_21 rfl ?_
    refine V_iconst (v := 3) C dL_isAcknowledged_23 rfl ?_
    refine V_icmpne_f (tgt := 32) C dL_isAcknowledged_24 (by decide) (congrArg nI h3) ?_
    refine V_bipush (v := (-30)) C dL_isAcknowledged_27 (by decide) ?_
    refine V_goto (tgt := 34) C dL_isAcknowledged_29 (by decide) ?_
    refine V_icmpne_f (tgt := 41) C dL_isAcknowledged_34 (by decide) rfl ?_
    refine V_iconst (v := 1) C dL_isAcknowledged_37 rfl ?_
    refine V_goto (tgt := 42) C dL_isAcknowledged_38 (by decide) ?_
    exact V_ireturn C Q dL_isAcknowledged_42 rfl (Nat.le_of_ble_eq_true rfl) (Nat.le_of_ble_eq_true rfl) ⟨rfl, hC, hK⟩
  have out4 : x < 3 → y = 4 → V X 0 0 12 [(0, .ref (ad 0)), (1, .ref (ad 400)), (2, .ref (ad 401)), (3, .ref (ad 403)), (4, .int (nI x)), (5, .int (nI y))] [] ad F := by
    intro h3 h4
    have e : spAck s (nI x) (nI y) = (2, 0, s) := by
      unfold spAck
      rw [if_neg (nbad h3 (by decide)), if_pos (Or.inr (by rw [h4]; decide))]
    rw [e] at Q
    refine V_aload_n C dL_isAcknowledged_12 rfl ?_
    refine V_iconst (v := 5) C dL_isAcknowledged_13 rfl ?_
    refine V_iload C dL_isAcknowledged_14 rfl ?_
    refine V_iload C dL_isAcknowledged_16 rfl ?_
    refine V_invH C dL_isAcknowledged_18 (d_acknowledge s (nI x) (nI y) hC hI hF) mh_L_107 rfl (Nat.le_of_ble_eq_true rfl) ⟨Nat.le_of_ble_eq_true rfl, Nat.le_of_ble_eq_true rfl⟩ ⟨(Nat.le_of_ble_eq_true rfl), (Nat.le_of_ble_eq_true rfl)⟩ (fun _ _ _ h => VT_no h) (fun v ad1 F1 hp => ?_)
    rw [e] at hp
    obtain ⟨rfl, hC, hfk⟩ := hp
    rw [show ad 0 = ad1 0 from hfk.a0.symm, show ad 400 = ad1 400 from (hfk.ad (by decide)).symm, show ad 401 = ad1 401 from (hfk.ad (by decide)).symm, show ad 403 = ad1 403 from (hfk.ad (by decide)).symm]
    have h400 := (hfk 400 (by decide)).2.trans h400
    have h403 := (hfk 403 (by decide)).2.trans h403
    have hK := hK.tr hfk
    refine V_nm (show _ = (-20 : Int32) from xv_n (r := (2, 0, s)) (i := 1) rfl) ?_
    refine V_iload C dL_isAcknowledged_21 rfl ?_
    refine V_iconst (v := 3) C dL_isAcknowledged_23 rfl ?_
    refine V_icmpne_t (tgt := 32) C dL_isAcknowledged_24 (by decide) (fun e => by have := (nI_eq (b := 3) (by omega) (by decide)).mp e; omega) ?_
    refine V_bipush (v := (-20)) C dL_isAcknowledged_32 (by decide) ?_
    refine V_icmpne_f (tgt := 41) C dL_isAcknowledged_34 (by decide) rfl ?_
    refine V_iconst (v := 1) C dL_isAcknowledged_37 rfl ?_
    refine V_goto (tgt := 42) C dL_isAcknowledged_38 (by decide) ?_
    exact V_ireturn C Q dL_isAcknowledged_42 rfl (Nat.le_of_ble_eq_true rfl) (Nat.le_of_ble_eq_true rfl) ⟨rfl, hC, hK⟩
  have inn : x < 3 → y < 4 → V X 0 0 43 [(0, .ref (ad 0)), (1, .ref (ad 400)), (2, .ref (ad 401)), (3, .ref (ad 403)), (4, .int (nI x)), (5, .int (nI y))] [] ad F := by
    intro h3 h4
    have hcap := row_cap hI h3
    have hbo : ¬ (nI y < 0 ∨ 3 < nI y) := by
      rintro (h | h)
      · exact nI_pos (by omega) h
      · exact nI_nlt (a := 3) (by omega) (by decide) h
    by_cases hu : (zRw s (2 * x + 1)).length = 0
    · have e : spAck s (nI x) (nI y) = (3, 0, s) := by
        unfold spAck
        rw [if_neg (nbad h3 (by decide)), if_neg hbo, ex, if_pos hu]
      rw [e] at Q
      refine V_aload_n C dL_isAcknowledged_43 rfl ?_
      refine V_iload C dL_isAcknowledged_44 rfl ?_
      refine V_invV (c0 := 0) C dL_isAcknowledged_46 hC.1 rfl (q_underWay s x hC hI h3) mv_L_81 rfl (Nat.le_of_ble_eq_true rfl) ⟨Nat.le_of_ble_eq_true rfl, Nat.le_of_ble_eq_true rfl⟩ ⟨(Nat.le_of_ble_eq_true rfl), (Nat.le_of_ble_eq_true rfl)⟩ (fun _ _ _ h => VT_no h) (fun v ad1 F1 hp => ?_)
      obtain ⟨rfl, hC, hfk⟩ := hp
      rw [show ad 0 = ad1 0 from hfk.a0.symm, show ad 400 = ad1 400 from (hfk.ad (by decide)).symm, show ad 401 = ad1 401 from (hfk.ad (by decide)).symm, show ad 403 = ad1 403 from (hfk.ad (by decide)).symm]
      have h400 := (hfk 400 (by decide)).2.trans h400
      have h403 := (hfk 403 (by decide)).2.trans h403
      have hK := hK.tr hfk
      refine V_istore C dL_isAcknowledged_49 (by decide) ?_
      refine V_aload_n C dL_isAcknowledged_51 rfl ?_
      refine V_iload C dL_isAcknowledged_52 rfl ?_
      refine V_invV (c0 := 0) C dL_isAcknowledged_54 hC.1 rfl (q_queued s x hC hI h3) mv_L_78 rfl (Nat.le_of_ble_eq_true rfl) ⟨Nat.le_of_ble_eq_true rfl, Nat.le_of_ble_eq_true rfl⟩ ⟨(Nat.le_of_ble_eq_true rfl), (Nat.le_of_ble_eq_true rfl)⟩ (fun _ _ _ h => VT_no h) (fun v ad2 F2 hp => ?_)
      obtain ⟨rfl, hC, hfk⟩ := hp
      rw [show ad1 0 = ad2 0 from hfk.a0.symm, show ad1 400 = ad2 400 from (hfk.ad (by decide)).symm, show ad1 401 = ad2 401 from (hfk.ad (by decide)).symm, show ad1 403 = ad2 403 from (hfk.ad (by decide)).symm]
      have h400 := (hfk 400 (by decide)).2.trans h400
      have h403 := (hfk 403 (by decide)).2.trans h403
      have hK := hK.tr hfk
      refine V_istore C dL_isAcknowledged_57 (by decide) ?_
      refine V_aload_n C dL_isAcknowledged_59 rfl ?_
      refine V_iconst (v := 5) C dL_isAcknowledged_60 rfl ?_
      refine V_iload C dL_isAcknowledged_61 rfl ?_
      refine V_iload C dL_isAcknowledged_63 rfl ?_
      refine V_invH C dL_isAcknowledged_65 (d_acknowledge s (nI x) (nI y) hC hI hF) mh_L_107 rfl (Nat.le_of_ble_eq_true rfl) ⟨Nat.le_of_ble_eq_true rfl, Nat.le_of_ble_eq_true rfl⟩ ⟨(Nat.le_of_ble_eq_true rfl), (Nat.le_of_ble_eq_true rfl)⟩ (fun _ _ _ h => VT_no h) (fun v ad3 F3 hp => ?_)
      rw [e] at hp
      obtain ⟨rfl, hC, hfk⟩ := hp
      rw [show ad2 0 = ad3 0 from hfk.a0.symm, show ad2 400 = ad3 400 from (hfk.ad (by decide)).symm, show ad2 401 = ad3 401 from (hfk.ad (by decide)).symm, show ad2 403 = ad3 403 from (hfk.ad (by decide)).symm]
      have h400 := (hfk 400 (by decide)).2.trans h400
      have h403 := (hfk 403 (by decide)).2.trans h403
      have hK := hK.tr hfk
      refine V_nm (show _ = (-10 : Int32) from xv_n (r := (3, 0, s)) (i := 2) rfl) ?_
      refine V_istore C dL_isAcknowledged_68 (by decide) ?_
      refine V_iload C dL_isAcknowledged_70 rfl ?_
      refine V_ifne_f (tgt := 88) C dL_isAcknowledged_72 (by decide) (by rw [hu]; rfl) ?_
      refine V_iload C dL_isAcknowledged_75 rfl ?_
      refine V_bipush (v := (-10)) C dL_isAcknowledged_77 (by decide) ?_
      refine V_icmpne_f (tgt := 86) C dL_isAcknowledged_79 (by decide) rfl ?_
      refine V_iconst (v := 1) C dL_isAcknowledged_82 rfl ?_
      refine V_goto (tgt := 87) C dL_isAcknowledged_83 (by decide) ?_
      exact V_ireturn C Q dL_isAcknowledged_87 rfl (Nat.le_of_ble_eq_true rfl) (Nat.le_of_ble_eq_true rfl) ⟨rfl, hC, hK⟩
    · obtain ⟨c, hc⟩ : ∃ c, (zRw s (2 * x + 1)).getD 0 0 = c := ⟨_, rfl⟩
      have hu0 : 0 < (zRw s (2 * x + 1)).length := Nat.pos_of_ne_zero hu
      have hin := inr_eq hI (hd_in hI h3 hu0).2
      rw [hc] at hin
      obtain ⟨hm, hnp, hp6, hcc, hlk, -⟩ := hin
      have e : spAck s (nI x) (nI y) = (0, nI (10 * mOf c + pOf c), ackS s x y) := by
        unfold spAck
        rw [if_neg (nbad h3 (by decide)), if_neg hbo, ex, if_neg hu, hc, ey]
      rw [e] at Q hQ2
      have hI2 : Inv (ackS s x y) := hQ2.1.1
      have hcap2 := row_cap hI2 h3
      have hmc2 : zMc (ackS s x y) = zMc s := congrArg (fun q => q.1) (cfg_ack s x y)
      have hm2 : mOf c < zMc (ackS s x y) := by rw [hmc2]; exact hm
      have hse := ack_sent (o := y) hu0
      have hzm := hz (mOf c) hm
      have hrc9 := (hI.2.2.2.2.2.1 _ hm).2.2.2.1
      have hst4 := (hI.2.2.2.2.2.1 _ hm).2.2.2.2.1
      have hst42 := (hI2.2.2.2.2.2.1 _ hm2).2.2.2.2.1
      have hlk2 := lk_64 hI2 hm2
      have d1 : (10 * mOf c + pOf c) / 10 = mOf c := by omega
      have d2 : (10 * mOf c + pOf c) % 10 = pOf c := by omega
      refine V_aload_n C dL_isAcknowledged_43 rfl ?_
      refine V_iload C dL_isAcknowledged_44 rfl ?_
      refine V_invV (c0 := 0) C dL_isAcknowledged_46 hC.1 rfl (q_underWay s x hC hI h3) mv_L_81 rfl (Nat.le_of_ble_eq_true rfl) ⟨Nat.le_of_ble_eq_true rfl, Nat.le_of_ble_eq_true rfl⟩ ⟨(Nat.le_of_ble_eq_true rfl), (Nat.le_of_ble_eq_true rfl)⟩ (fun _ _ _ h => VT_no h) (fun v ad1 F1 hp => ?_)
      obtain ⟨rfl, hC, hfk⟩ := hp
      rw [show ad 0 = ad1 0 from hfk.a0.symm, show ad 400 = ad1 400 from (hfk.ad (by decide)).symm, show ad 401 = ad1 401 from (hfk.ad (by decide)).symm, show ad 403 = ad1 403 from (hfk.ad (by decide)).symm]
      have h400 := (hfk 400 (by decide)).2.trans h400
      have h403 := (hfk 403 (by decide)).2.trans h403
      have hK := hK.tr hfk
      refine V_istore C dL_isAcknowledged_49 (by decide) ?_
      refine V_aload_n C dL_isAcknowledged_51 rfl ?_
      refine V_iload C dL_isAcknowledged_52 rfl ?_
      refine V_invV (c0 := 0) C dL_isAcknowledged_54 hC.1 rfl (q_queued s x hC hI h3) mv_L_78 rfl (Nat.le_of_ble_eq_true rfl) ⟨Nat.le_of_ble_eq_true rfl, Nat.le_of_ble_eq_true rfl⟩ ⟨(Nat.le_of_ble_eq_true rfl), (Nat.le_of_ble_eq_true rfl)⟩ (fun _ _ _ h => VT_no h) (fun v ad2 F2 hp => ?_)
      obtain ⟨rfl, hC, hfk⟩ := hp
      rw [show ad1 0 = ad2 0 from hfk.a0.symm, show ad1 400 = ad2 400 from (hfk.ad (by decide)).symm, show ad1 401 = ad2 401 from (hfk.ad (by decide)).symm, show ad1 403 = ad2 403 from (hfk.ad (by decide)).symm]
      have h400 := (hfk 400 (by decide)).2.trans h400
      have h403 := (hfk 403 (by decide)).2.trans h403
      have hK := hK.tr hfk
      refine V_istore C dL_isAcknowledged_57 (by decide) ?_
      refine V_aload_n C dL_isAcknowledged_59 rfl ?_
      refine V_iconst (v := 5) C dL_isAcknowledged_60 rfl ?_
      refine V_iload C dL_isAcknowledged_61 rfl ?_
      refine V_iload C dL_isAcknowledged_63 rfl ?_
      refine V_invH C dL_isAcknowledged_65 (d_acknowledge s (nI x) (nI y) hC hI hF) mh_L_107 rfl (Nat.le_of_ble_eq_true rfl) ⟨Nat.le_of_ble_eq_true rfl, Nat.le_of_ble_eq_true rfl⟩ ⟨(Nat.le_of_ble_eq_true rfl), (Nat.le_of_ble_eq_true rfl)⟩ (fun _ _ _ h => VT_no h) (fun v ad3 F3 hp => ?_)
      rw [e] at hp
      obtain ⟨rfl, hC, hfk⟩ := hp
      rw [show ad2 0 = ad3 0 from hfk.a0.symm, show ad2 400 = ad3 400 from (hfk.ad (by decide)).symm, show ad2 401 = ad3 401 from (hfk.ad (by decide)).symm, show ad2 403 = ad3 403 from (hfk.ad (by decide)).symm]
      have h400 := (hfk 400 (by decide)).2.trans h400
      have h403 := (hfk 403 (by decide)).2.trans h403
      have hK := hK.tr hfk
      refine V_nm xv_ok ?_
      refine V_istore C dL_isAcknowledged_68 (by decide) ?_
      refine V_iload C dL_isAcknowledged_70 rfl ?_
      refine V_ifne_t (tgt := 88) C dL_isAcknowledged_72 (by decide) (nI_ne0 hu0 (by omega)) ?_
      refine V_iload C dL_isAcknowledged_88 rfl ?_
      refine V_bipush (v := 10) C dL_isAcknowledged_90 (by decide) ?_
      refine V_idiv C dL_isAcknowledged_92 (by decide) ?_
      refine V_nm ((pk_div (d := 10) (by omega) (by decide) (by decide)).trans (congrArg nI d1)) ?_
      refine V_istore C dL_isAcknowledged_93 (by decide) ?_
      refine V_iload C dL_isAcknowledged_95 rfl ?_
      refine V_aload_n C dL_isAcknowledged_97 rfl ?_
      refine V_iconst (v := 3) C dL_isAcknowledged_98 rfl ?_
      refine V_iald C dL_isAcknowledged_99 h403 (show _ = nI 3 from rfl) (by decide) (by decide) ?_
      refine V_nm g3 ?_
      refine V_icmpge_f (tgt := 131) C dL_isAcknowledged_100 (by decide) (nI_ge hm (by omega)) ?_
      refine V_aload_n C dL_isAcknowledged_103 rfl ?_
      refine V_iload C dL_isAcknowledged_104 rfl ?_
      refine V_iald C dL_isAcknowledged_106 h400 rfl (show mOf c < 60 by omega) (by decide) ?_
      refine V_nm hzm.1 ?_
      refine V_iconst (v := 3) C dL_isAcknowledged_107 rfl ?_
      refine V_irem C dL_isAcknowledged_108 (by decide) ?_
      refine V_nm ((pk_rem (d := 3) (by omega) (by decide) (by decide)).trans (congrArg nI hlk)) ?_
      refine V_iload C dL_isAcknowledged_109 rfl ?_
      refine V_icmpne_f (tgt := 131) C dL_isAcknowledged_111 (by decide) rfl ?_
      refine V_aload_n C dL_isAcknowledged_114 rfl ?_
      refine V_iload C dL_isAcknowledged_115 rfl ?_
      refine V_invV (c0 := 0) C dL_isAcknowledged_117 hC.1 rfl (q_underWay (ackS s x y) x hC hI2 h3) mv_L_81 rfl (Nat.le_of_ble_eq_true rfl) ⟨Nat.le_of_ble_eq_true rfl, Nat.le_of_ble_eq_true rfl⟩ ⟨(Nat.le_of_ble_eq_true rfl), (Nat.le_of_ble_eq_true rfl)⟩ (fun _ _ _ h => VT_no h) (fun v ad4 F4 hp => ?_)
      obtain ⟨rfl, hC, hfk⟩ := hp
      rw [show ad3 0 = ad4 0 from hfk.a0.symm, show ad3 400 = ad4 400 from (hfk.ad (by decide)).symm, show ad3 401 = ad4 401 from (hfk.ad (by decide)).symm, show ad3 403 = ad4 403 from (hfk.ad (by decide)).symm]
      have h400 := (hfk 400 (by decide)).2.trans h400
      have h403 := (hfk 403 (by decide)).2.trans h403
      have hK := hK.tr hfk
      refine V_iload C dL_isAcknowledged_120 rfl ?_
      refine V_iconst (v := 1) C dL_isAcknowledged_122 rfl ?_
      refine V_isub C dL_isAcknowledged_123 ?_
      refine V_nm (nI_m1 hu0) ?_
      refine V_icmpne_f (tgt := 131) C dL_isAcknowledged_124 (by decide) (congrArg nI hse) ?_
      refine V_iconst (v := 1) C dL_isAcknowledged_127 rfl ?_
      refine V_goto (tgt := 132) C dL_isAcknowledged_128 (by decide) ?_
      refine V_istore C dL_isAcknowledged_132 (by decide) ?_
      refine V_iload C dL_isAcknowledged_134 rfl ?_
      refine V_ifeq_f (tgt := 149) C dL_isAcknowledged_136 (by decide) (by decide) ?_
      refine V_aload_n C dL_isAcknowledged_139 rfl ?_
      refine V_bipush (v := 20) C dL_isAcknowledged_140 (by decide) ?_
      refine V_iload C dL_isAcknowledged_142 rfl ?_
      refine V_iadd C dL_isAcknowledged_144 ?_
      refine V_nm (nI_add 20 _) ?_
      refine V_iald C dL_isAcknowledged_145 h400 rfl (show 20 + mOf c < 60 by omega) (by decide) ?_
      refine V_nm hzm.2.1 ?_
      by_cases hq : zSt s (mOf c) = 0
      · refine V_ifle_t (tgt := 187) C dL_isAcknowledged_146 (by decide) (by rw [hq]; decide) ?_
        refine V_aload_n C dL_isAcknowledged_187 rfl ?_
        refine V_iload C dL_isAcknowledged_188 rfl ?_
        refine V_invV (c0 := 0) C dL_isAcknowledged_190 hC.1 rfl (q_state (ackS s x y) (mOf c) hC hI2 hm2) mv_L_66 rfl (Nat.le_of_ble_eq_true rfl) ⟨Nat.le_of_ble_eq_true rfl, Nat.le_of_ble_eq_true rfl⟩ ⟨(Nat.le_of_ble_eq_true rfl), (Nat.le_of_ble_eq_true rfl)⟩ (fun _ _ _ h => VT_no h) (fun v ad5 F5 hp => ?_)
        obtain ⟨rfl, hC, hfk⟩ := hp
        rw [show ad4 0 = ad5 0 from hfk.a0.symm, show ad4 400 = ad5 400 from (hfk.ad (by decide)).symm, show ad4 401 = ad5 401 from (hfk.ad (by decide)).symm, show ad4 403 = ad5 403 from (hfk.ad (by decide)).symm]
        have h400 := (hfk 400 (by decide)).2.trans h400
        have h403 := (hfk 403 (by decide)).2.trans h403
        have hK := hK.tr hfk
        refine V_istore C dL_isAcknowledged_193 (by decide) ?_
        refine V_iload C dL_isAcknowledged_195 rfl ?_
        by_cases h0 : y = 0
        · subst h0
          obtain ⟨b1, b2⟩ := ack_0 hI hc hm hp6 hq
          refine V_ifne_f (tgt := 236) C dL_isAcknowledged_197 (by decide) rfl ?_
          refine V_aload_n C dL_isAcknowledged_200 rfl ?_
          refine V_iload C dL_isAcknowledged_201 rfl ?_
          refine V_invV (c0 := 0) C dL_isAcknowledged_203 hC.1 rfl (q_missing (ackS s x 0) (mOf c) hC hI2 hm2) mv_L_69 rfl (Nat.le_of_ble_eq_true rfl) ⟨Nat.le_of_ble_eq_true rfl, Nat.le_of_ble_eq_true rfl⟩ ⟨(Nat.le_of_ble_eq_true rfl), (Nat.le_of_ble_eq_true rfl)⟩ (fun _ _ _ h => VT_no h) (fun v ad6 F6 hp => ?_)
          obtain ⟨rfl, hC, hfk⟩ := hp
          rw [show ad5 0 = ad6 0 from hfk.a0.symm, show ad5 400 = ad6 400 from (hfk.ad (by decide)).symm, show ad5 401 = ad6 401 from (hfk.ad (by decide)).symm, show ad5 403 = ad6 403 from (hfk.ad (by decide)).symm]
          have h400 := (hfk 400 (by decide)).2.trans h400
          have h403 := (hfk 403 (by decide)).2.trans h403
          have hK := hK.tr hfk
          refine V_iload C dL_isAcknowledged_206 rfl ?_
          refine V_bipush (v := 10) C dL_isAcknowledged_208 (by decide) ?_
          refine V_irem C dL_isAcknowledged_210 (by decide) ?_
          refine V_nm ((pk_rem (d := 10) (by omega) (by decide) (by decide)).trans (congrArg nI d2)) ?_
          refine V_ishr C dL_isAcknowledged_211 ?_
          refine V_nm (pk_shrN (by omega) _ (pOf c) (shr_ok _ (by omega))) ?_
          refine V_iconst (v := 1) C dL_isAcknowledged_212 rfl ?_
          refine V_iand C dL_isAcknowledged_213 ?_
          refine V_nm (pk_andN (n := zLk (ackS s x 0) (mOf c) / 2 ^ pOf c) (Nat.lt_of_le_of_lt (Nat.div_le_self _ _) (by omega)) (m := 1) 1 (by decide)) ?_
          have b3 : zLk (ackS s x 0) (mOf c) / 2 ^ pOf c % 2 ^ 1 = 0 := by
            rw [Nat.testBit_eq_decide_div_mod_eq] at b1
            have := of_decide_eq_false b1
            omega
          refine V_ifne_f (tgt := 232) C dL_isAcknowledged_214 (by decide) (congrArg nI b3) ?_
          refine V_iload C dL_isAcknowledged_217 rfl ?_
          by_cases h1 : zSt (ackS s x 0) (mOf c) = 0
          · refine V_ifeq_t (tgt := 228) C dL_isAcknowledged_219 (by decide) (congrArg nI h1) ?_
            refine V_iconst (v := 1) C dL_isAcknowledged_228 rfl ?_
            refine V_goto (tgt := 317) C dL_isAcknowledged_229 (by decide) ?_
            exact V_ireturn C Q dL_isAcknowledged_317 rfl (Nat.le_of_ble_eq_true rfl) (Nat.le_of_ble_eq_true rfl) ⟨rfl, hC, hK⟩
          · refine V_ifeq_f (tgt := 228) C dL_isAcknowledged_219 (by decide) (nI_ne0 (Nat.pos_of_ne_zero h1) (by omega)) ?_
            refine V_iload C dL_isAcknowledged_222 rfl ?_
            refine V_iconst (v := 1) C dL_isAcknowledged_224 rfl ?_
            refine V_icmpne_f (tgt := 232) C dL_isAcknowledged_225 (by decide) (congrArg nI (b2.resolve_left h1)) ?_
            refine V_iconst (v := 1) C dL_isAcknowledged_228 rfl ?_
            refine V_goto (tgt := 317) C dL_isAcknowledged_229 (by decide) ?_
            exact V_ireturn C Q dL_isAcknowledged_317 rfl (Nat.le_of_ble_eq_true rfl) (Nat.le_of_ble_eq_true rfl) ⟨rfl, hC, hK⟩
        · refine V_ifne_t (tgt := 236) C dL_isAcknowledged_197 (by decide) (nI_ne0 (Nat.pos_of_ne_zero h0) (by omega)) ?_
          refine V_iload C dL_isAcknowledged_236 rfl ?_
          refine V_iconst (v := 3) C dL_isAcknowledged_238 rfl ?_
          by_cases h03 : y = 3
          · subst h03
            have b1 := ack_3 hc hq
            refine V_icmpne_f (tgt := 256) C dL_isAcknowledged_239 (by decide) rfl ?_
            refine V_iload C dL_isAcknowledged_242 rfl ?_
            refine V_iconst (v := 2) C dL_isAcknowledged_244 rfl ?_
            refine V_icmpne_f (tgt := 252) C dL_isAcknowledged_245 (by decide) (congrArg nI b1) ?_
            refine V_iconst (v := 1) C dL_isAcknowledged_248 rfl ?_
            refine V_goto (tgt := 317) C dL_isAcknowledged_249 (by decide) ?_
            exact V_ireturn C Q dL_isAcknowledged_317 rfl (Nat.le_of_ble_eq_true rfl) (Nat.le_of_ble_eq_true rfl) ⟨rfl, hC, hK⟩
          · refine V_icmpne_t (tgt := 256) C dL_isAcknowledged_239 (by decide) (fun e => h03 ((nI_eq (b := 3) (by omega) (by decide)).mp e)) ?_
            refine V_iload C dL_isAcknowledged_256 rfl ?_
            refine V_iconst (v := 2) C dL_isAcknowledged_258 rfl ?_
            by_cases h02 : y = 2
            · subst h02
              obtain ⟨b1, b2⟩ := ack_2 hc hlk hq
              refine V_icmpne_f (tgt := 288) C dL_isAcknowledged_259 (by decide) rfl ?_
              refine V_iload C dL_isAcknowledged_262 rfl ?_
              refine V_ifne_f (tgt := 284) C dL_isAcknowledged_264 (by decide) (congrArg nI b1) ?_
              refine V_aload_n C dL_isAcknowledged_267 rfl ?_
              refine V_iload C dL_isAcknowledged_268 rfl ?_
              refine V_invV (c0 := 0) C dL_isAcknowledged_270 hC.1 rfl (q_queued (ackS s x 2) x hC hI2 h3) mv_L_78 rfl (Nat.le_of_ble_eq_true rfl) ⟨Nat.le_of_ble_eq_true rfl, Nat.le_of_ble_eq_true rfl⟩ ⟨(Nat.le_of_ble_eq_true rfl), (Nat.le_of_ble_eq_true rfl)⟩ (fun _ _ _ h => VT_no h) (fun v ad7 F7 hp => ?_)
              obtain ⟨rfl, hC, hfk⟩ := hp
              rw [show ad5 0 = ad7 0 from hfk.a0.symm, show ad5 400 = ad7 400 from (hfk.ad (by decide)).symm, show ad5 401 = ad7 401 from (hfk.ad (by decide)).symm, show ad5 403 = ad7 403 from (hfk.ad (by decide)).symm]
              have h400 := (hfk 400 (by decide)).2.trans h400
              have h403 := (hfk 403 (by decide)).2.trans h403
              have hK := hK.tr hfk
              refine V_iload C dL_isAcknowledged_273 rfl ?_
              refine V_iconst (v := 1) C dL_isAcknowledged_275 rfl ?_
              refine V_iadd C dL_isAcknowledged_276 ?_
              refine V_nm (nI_1 _) ?_
              refine V_icmpne_f (tgt := 284) C dL_isAcknowledged_277 (by decide) (congrArg nI b2) ?_
              refine V_iconst (v := 1) C dL_isAcknowledged_280 rfl ?_
              refine V_goto (tgt := 317) C dL_isAcknowledged_281 (by decide) ?_
              exact V_ireturn C Q dL_isAcknowledged_317 rfl (Nat.le_of_ble_eq_true rfl) (Nat.le_of_ble_eq_true rfl) ⟨rfl, hC, hK⟩
            · refine V_icmpne_t (tgt := 288) C dL_isAcknowledged_259 (by decide) (fun e => h02 ((nI_eq (b := 2) (by omega) (by decide)).mp e)) ?_
              obtain rfl : y = 1 := by omega
              have b1 := ack_1 hc hlk hq
              refine V_iload C dL_isAcknowledged_288 rfl ?_
              refine V_iconst (v := 2) C dL_isAcknowledged_290 rfl ?_
              by_cases h1 : zSt (ackS s x 1) (mOf c) = 2
              · refine V_icmpeq_t (tgt := 312) C dL_isAcknowledged_291 (by decide) (congrArg nI h1) ?_
                refine V_iconst (v := 1) C dL_isAcknowledged_312 rfl ?_
                refine V_goto (tgt := 317) C dL_isAcknowledged_313 (by decide) ?_
                exact V_ireturn C Q dL_isAcknowledged_317 rfl (Nat.le_of_ble_eq_true rfl) (Nat.le_of_ble_eq_true rfl) ⟨rfl, hC, hK⟩
              · obtain ⟨b2, b3⟩ := b1.resolve_left h1
                refine V_icmpeq_f (tgt := 312) C dL_isAcknowledged_291 (by decide) (fun e => h1 ((nI_eq (b := 2) (by omega) (by decide)).mp e)) ?_
                refine V_iload C dL_isAcknowledged_294 rfl ?_
                refine V_ifne_f (tgt := 316) C dL_isAcknowledged_296 (by decide) (congrArg nI b2) ?_
                refine V_aload_n C dL_isAcknowledged_299 rfl ?_
                refine V_iload C dL_isAcknowledged_300 rfl ?_
                refine V_invV (c0 := 0) C dL_isAcknowledged_302 hC.1 rfl (q_queued (ackS s x 1) x hC hI2 h3) mv_L_78 rfl (Nat.le_of_ble_eq_true rfl) ⟨Nat.le_of_ble_eq_true rfl, Nat.le_of_ble_eq_true rfl⟩ ⟨(Nat.le_of_ble_eq_true rfl), (Nat.le_of_ble_eq_true rfl)⟩ (fun _ _ _ h => VT_no h) (fun v ad8 F8 hp => ?_)
                obtain ⟨rfl, hC, hfk⟩ := hp
                rw [show ad5 0 = ad8 0 from hfk.a0.symm, show ad5 400 = ad8 400 from (hfk.ad (by decide)).symm, show ad5 401 = ad8 401 from (hfk.ad (by decide)).symm, show ad5 403 = ad8 403 from (hfk.ad (by decide)).symm]
                have h400 := (hfk 400 (by decide)).2.trans h400
                have h403 := (hfk 403 (by decide)).2.trans h403
                have hK := hK.tr hfk
                refine V_iload C dL_isAcknowledged_305 rfl ?_
                refine V_iconst (v := 1) C dL_isAcknowledged_307 rfl ?_
                refine V_iadd C dL_isAcknowledged_308 ?_
                refine V_nm (nI_1 _) ?_
                refine V_icmpne_f (tgt := 316) C dL_isAcknowledged_309 (by decide) (congrArg nI b3) ?_
                refine V_iconst (v := 1) C dL_isAcknowledged_312 rfl ?_
                refine V_goto (tgt := 317) C dL_isAcknowledged_313 (by decide) ?_
                exact V_ireturn C Q dL_isAcknowledged_317 rfl (Nat.le_of_ble_eq_true rfl) (Nat.le_of_ble_eq_true rfl) ⟨rfl, hC, hK⟩
      · obtain ⟨q1, q2⟩ := ack_end (o := y) hc hq
        refine V_ifle_f (tgt := 187) C dL_isAcknowledged_146 (by decide) (nI_nle (Nat.pos_of_ne_zero hq) (by omega)) ?_
        refine V_iload C dL_isAcknowledged_149 rfl ?_
        refine V_ifeq_f (tgt := 185) C dL_isAcknowledged_151 (by decide) (by decide) ?_
        refine V_aload_n C dL_isAcknowledged_154 rfl ?_
        refine V_iload C dL_isAcknowledged_155 rfl ?_
        refine V_invV (c0 := 0) C dL_isAcknowledged_157 hC.1 rfl (q_queued (ackS s x y) x hC hI2 h3) mv_L_78 rfl (Nat.le_of_ble_eq_true rfl) ⟨Nat.le_of_ble_eq_true rfl, Nat.le_of_ble_eq_true rfl⟩ ⟨(Nat.le_of_ble_eq_true rfl), (Nat.le_of_ble_eq_true rfl)⟩ (fun _ _ _ h => VT_no h) (fun v ad9 F9 hp => ?_)
        obtain ⟨rfl, hC, hfk⟩ := hp
        rw [show ad4 0 = ad9 0 from hfk.a0.symm, show ad4 400 = ad9 400 from (hfk.ad (by decide)).symm, show ad4 401 = ad9 401 from (hfk.ad (by decide)).symm, show ad4 403 = ad9 403 from (hfk.ad (by decide)).symm]
        have h400 := (hfk 400 (by decide)).2.trans h400
        have h403 := (hfk 403 (by decide)).2.trans h403
        have hK := hK.tr hfk
        refine V_iload C dL_isAcknowledged_160 rfl ?_
        refine V_icmpne_f (tgt := 185) C dL_isAcknowledged_162 (by decide) (by rw [q1]) ?_
        refine V_aload_n C dL_isAcknowledged_165 rfl ?_
        refine V_iload C dL_isAcknowledged_166 rfl ?_
        refine V_invV (c0 := 0) C dL_isAcknowledged_168 hC.1 rfl (q_state (ackS s x y) (mOf c) hC hI2 hm2) mv_L_66 rfl (Nat.le_of_ble_eq_true rfl) ⟨Nat.le_of_ble_eq_true rfl, Nat.le_of_ble_eq_true rfl⟩ ⟨(Nat.le_of_ble_eq_true rfl), (Nat.le_of_ble_eq_true rfl)⟩ (fun _ _ _ h => VT_no h) (fun v ad10 F10 hp => ?_)
        obtain ⟨rfl, hC, hfk⟩ := hp
        rw [show ad9 0 = ad10 0 from hfk.a0.symm, show ad9 400 = ad10 400 from (hfk.ad (by decide)).symm, show ad9 401 = ad10 401 from (hfk.ad (by decide)).symm, show ad9 403 = ad10 403 from (hfk.ad (by decide)).symm]
        have h400 := (hfk 400 (by decide)).2.trans h400
        have h403 := (hfk 403 (by decide)).2.trans h403
        have hK := hK.tr hfk
        refine V_aload_n C dL_isAcknowledged_171 rfl ?_
        refine V_bipush (v := 20) C dL_isAcknowledged_172 (by decide) ?_
        refine V_iload C dL_isAcknowledged_174 rfl ?_
        refine V_iadd C dL_isAcknowledged_176 ?_
        refine V_nm (nI_add 20 _) ?_
        refine V_iald C dL_isAcknowledged_177 h400 rfl (show 20 + mOf c < 60 by omega) (by decide) ?_
        refine V_nm hzm.2.1 ?_
        refine V_icmpne_f (tgt := 185) C dL_isAcknowledged_178 (by decide) (by rw [q2]) ?_
        refine V_iconst (v := 1) C dL_isAcknowledged_181 rfl ?_
        refine V_goto (tgt := 186) C dL_isAcknowledged_182 (by decide) ?_
        exact V_ireturn C Q dL_isAcknowledged_186 rfl (Nat.le_of_ble_eq_true rfl) (Nat.le_of_ble_eq_true rfl) ⟨rfl, hC, hK⟩
  refine V_iload C dL_isAcknowledged_0 rfl ?_
  refine V_iconst (v := 3) C dL_isAcknowledged_2 rfl ?_
  by_cases hq : x = 3
  · refine V_icmpeq_t (tgt := 12) C dL_isAcknowledged_3 (by decide) (congrArg nI hq) ?_
    exact V_sb (out3 hq) ⟨rfl, rfl, rfl, rfl, rfl, rfl, trivial⟩
  · refine V_icmpeq_f (tgt := 12) C dL_isAcknowledged_3 (by decide) (fun e => hq ((nI_eq (b := 3) (by omega) (by decide)).mp e)) ?_
    refine V_iload C dL_isAcknowledged_6 rfl ?_
    refine V_iconst (v := 4) C dL_isAcknowledged_8 rfl ?_
    by_cases hq2 : y = 4
    · refine V_icmpne_f (tgt := 43) C dL_isAcknowledged_9 (by decide) (congrArg nI hq2) ?_
      exact V_sb (out4 (by omega) hq2) ⟨rfl, rfl, rfl, rfl, rfl, rfl, trivial⟩
    · refine V_icmpne_t (tgt := 43) C dL_isAcknowledged_9 (by decide) (fun e => hq2 ((nI_eq (b := 4) (by omega) (by decide)).mp e)) ?_
      exact V_sb (inn (by omega) (by omega)) ⟨rfl, rfl, rfl, rfl, rfl, rfl, trivial⟩
