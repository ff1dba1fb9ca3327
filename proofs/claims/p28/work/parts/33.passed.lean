/-! ===== the law: isPassed ===== -/
theorem und_eq {a b c d e f n : Nat} (h : d + e + f = a + b + c + n) : 0 - nI a - nI b - nI c + nI d + nI e + nI f = nI n := by
  have h2 : nI d + nI e + nI f = nI a + nI b + nI c + nI n := by rw [nI_add, nI_add, nI_add, nI_add, nI_add, h]
  grind
/-- what neither time nor an acknowledgement changes -/
def cfg (s : St) : Nat × List Nat × (Nat → Nat) × (Nat → Nat) × (Nat → Nat) × (Nat → List Nat) × (Nat → Int32) × (Nat → Int32) × (Nat → Int32) := (zMc s, zTxt s, zUp s, zWn s, zRc s, zMs s, zKw s, zSe s, zLa s)
theorem cfg_exp (s : St) : ∀ i, cfg (expN s i) = cfg s
  | 0 => rfl
  | i + 1 => by
    by_cases h2 : zSt (expN s i) i = 0 ∧ zEn (expN s i) i ≤ zNow (expN s i)
    · have e : expN s (i + 1) = finS (expN s i) i 3 := if_pos h2
      rw [e]
      exact cfg_exp s i
    · have e : expN s (i + 1) = expN s i := if_neg h2
      rw [e]
      exact cfg_exp s i
theorem cfg_lks (s : St) : ∀ i, cfg (lksN s i).1 = cfg s
  | 0 => rfl
  | i + 1 => cfg_lks s i
theorem cfg_pas (s : St) : ∀ i, cfg (pasN s i).1 = cfg s
  | 0 => rfl
  | i + 1 => ((cfg_lks _ 3).trans (cfg_exp (sNow (pasN s i).1 (zNow (pasN s i).1 + 1)) _)).trans (cfg_pas s i)
set_option maxHeartbeats 2000000 in
set_option maxRecDepth 100000 in
/-- isPassed -/
theorem l_isPassed {l : Launch} {D : Dx} {b0 : Nat} {ad : Nat → Nat} {F : Fn} (s : St) (y rcn : Nat) (hC : CRep D ad F s) (hQ : Kq s) (hb : zNow s ≤ 190000) (hG : LG D F (zTxt s) (zMc s) (zNow s) rcn) (hy : y < 2 ^ 20) : Ct l D b0 yL_isPassed (wsA yL_isPassed cL_isPassed 8 (some .boolean)) rAct [.ref (ad 0), .ref (ad 401), .ref (ad 403), .int (nI y)] ad F (fun r ad1 F1 => r = some (.int 1) ∧ CRep D ad1 F1 (spPass s (nI y)).2.2 ∧ FrL [403] ad F ad1 F1 ∧ LG D F1 (zTxt s) (zMc s) (zNow (spPass s (nI y)).2.2) rcn) noX := by
  refine Ct.of (by decide +kernel) (by simp [Value.category]) (Nat.le_of_ble_eq_true rfl) (fun X eD eb el C Q => ?_)
  subst eD; subst eb; subst el
  have hI := hQ.1.1
  obtain ⟨g, h403, g0, g1, g2, g3, g4, g5⟩ := hG
  have ey : (nI y).toNatClampNeg = y := nI_clamp (by omega)
  have hK : FrL [403] ad F ad F := FrL.rf
  have hQ2 := (kq_pass (a := nI y) hQ hb).1
  have bad : ¬ (0 < y ∧ y < 201) → V X 0 0 18 [(0, .ref (ad 0)), (1, .ref (ad 401)), (2, .ref (ad 403)), (3, .int (nI y)), (4, .int 0)] [] ad F := by
    intro hbd
    have e : spPass s (nI y) = (1, 0, s) := by
      unfold spPass
      rw [if_pos]
      rcases (show y = 0 ∨ 201 ≤ y by omega) with h | h
      · exact Or.inl (by rw [h]; decide)
      · exact Or.inr (nI_lt (a := 200) h (by omega))
    rw [e] at Q
    have hI2 := hI
    refine V_iconst (v := 0) C dL_isPassed_18 rfl ?_
    refine V_istore C dL_isPassed_19 (by decide) ?_
    refine V_iconst (v := 0) C dL_isPassed_21 rfl ?_
    refine V_istore C dL_isPassed_22 (by decide) ?_
    refine V_iload C dL_isPassed_24 rfl ?_
    refine V_iconst (v := 3) C dL_isPassed_26 rfl ?_
    refine V_icmpge_f (tgt := 47) C dL_isPassed_27 (by decide) (by decide) ?_
    refine V_iload C dL_isPassed_30 rfl ?_
    refine V_aload_n C dL_isPassed_32 rfl ?_
    refine V_iload C dL_isPassed_33 rfl ?_
    refine V_invV (c0 := 0) C dL_isPassed_35 hC.1 rfl (q_underWay s 0 hC hI (by decide)) mv_L_81 rfl (Nat.le_of_ble_eq_true rfl) ⟨Nat.le_of_ble_eq_true rfl, Nat.le_of_ble_eq_true rfl⟩ ⟨(Nat.le_of_ble_eq_true rfl), (Nat.le_of_ble_eq_true rfl)⟩ (fun _ _ _ h => VT_no h) (fun v ad1 F1 hp => ?_)
    obtain ⟨rfl, hC, hfk⟩ := hp
    rw [show ad 0 = ad1 0 from hfk.a0.symm, show ad 403 = ad1 403 from (hfk.ad (by decide)).symm]
    have h403 := (hfk 403 (by decide)).2.trans h403
    have hK := hK.trk hfk
    refine V_isub C dL_isPassed_38 ?_
    refine V_istore C dL_isPassed_39 (by decide) ?_
    refine V_iinc C dL_isPassed_41 rfl (show (0 : Int32) + Int32.ofInt 1 = 1 by decide) (by decide) ?_
    refine V_goto (tgt := 24) C dL_isPassed_44 (by decide) ?_
    refine V_iload C dL_isPassed_24 rfl ?_
    refine V_iconst (v := 3) C dL_isPassed_26 rfl ?_
    refine V_icmpge_f (tgt := 47) C dL_isPassed_27 (by decide) (by decide) ?_
    refine V_iload C dL_isPassed_30 rfl ?_
    refine V_aload_n C dL_isPassed_32 rfl ?_
    refine V_iload C dL_isPassed_33 rfl ?_
    refine V_invV (c0 := 0) C dL_isPassed_35 hC.1 rfl (q_underWay s 1 hC hI (by decide)) mv_L_81 rfl (Nat.le_of_ble_eq_true rfl) ⟨Nat.le_of_ble_eq_true rfl, Nat.le_of_ble_eq_true rfl⟩ ⟨(Nat.le_of_ble_eq_true rfl), (Nat.le_of_ble_eq_true rfl)⟩ (fun _ _ _ h => VT_no h) (fun v ad2 F2 hp => ?_)
    obtain ⟨rfl, hC, hfk⟩ := hp
    rw [show ad1 0 = ad2 0 from hfk.a0.symm, show ad1 403 = ad2 403 from (hfk.ad (by decide)).symm]
    have h403 := (hfk 403 (by decide)).2.trans h403
    have hK := hK.trk hfk
    refine V_isub C dL_isPassed_38 ?_
    refine V_istore C dL_isPassed_39 (by decide) ?_
    refine V_iinc C dL_isPassed_41 rfl (show (1 : Int32) + Int32.ofInt 1 = 2 by decide) (by decide) ?_
    refine V_goto (tgt := 24) C dL_isPassed_44 (by decide) ?_
    refine V_iload C dL_isPassed_24 rfl ?_
    refine V_iconst (v := 3) C dL_isPassed_26 rfl ?_
    refine V_icmpge_f (tgt := 47) C dL_isPassed_27 (by decide) (by decide) ?_
    refine V_iload C dL_isPassed_30 rfl ?_
    refine V_aload_n C dL_isPassed_32 rfl ?_
    refine V_iload C dL_isPassed_33 rfl ?_
    refine V_invV (c0 := 0) C dL_isPassed_35 hC.1 rfl (q_underWay s 2 hC hI (by decide)) mv_L_81 rfl (Nat.le_of_ble_eq_true rfl) ⟨Nat.le_of_ble_eq_true rfl, Nat.le_of_ble_eq_true rfl⟩ ⟨(Nat.le_of_ble_eq_true rfl), (Nat.le_of_ble_eq_true rfl)⟩ (fun _ _ _ h => VT_no h) (fun v ad3 F3 hp => ?_)
    obtain ⟨rfl, hC, hfk⟩ := hp
    rw [show ad2 0 = ad3 0 from hfk.a0.symm, show ad2 403 = ad3 403 from (hfk.ad (by decide)).symm]
    have h403 := (hfk 403 (by decide)).2.trans h403
    have hK := hK.trk hfk
    refine V_isub C dL_isPassed_38 ?_
    refine V_istore C dL_isPassed_39 (by decide) ?_
    refine V_iinc C dL_isPassed_41 rfl (show (2 : Int32) + Int32.ofInt 1 = 3 by decide) (by decide) ?_
    refine V_goto (tgt := 24) C dL_isPassed_44 (by decide) ?_
    refine V_iload C dL_isPassed_24 rfl ?_
    refine V_iconst (v := 3) C dL_isPassed_26 rfl ?_
    refine V_icmpge_t (tgt := 47) C dL_isPassed_27 (by decide) (by decide) ?_
    refine V_aload_n C dL_isPassed_47 rfl ?_
    refine V_iconst (v := 2) C dL_isPassed_48 rfl ?_
    refine V_iload_n C dL_isPassed_49 rfl ?_
    refine V_iconst (v := 0) C dL_isPassed_50 rfl ?_
    refine V_invH C dL_isPassed_51 (d_pass s (nI y) 0 hC hI hb) mh_L_107 rfl (Nat.le_of_ble_eq_true rfl) ⟨Nat.le_of_ble_eq_true rfl, Nat.le_of_ble_eq_true rfl⟩ ⟨(Nat.le_of_ble_eq_true rfl), (Nat.le_of_ble_eq_true rfl)⟩ (fun _ _ _ h => VT_no h) (fun v ad4 F4 hp => ?_)
    rw [e] at hp
    obtain ⟨rfl, hC, hfk⟩ := hp
    rw [show ad3 0 = ad4 0 from hfk.a0.symm, show ad3 403 = ad4 403 from (hfk.ad (by decide)).symm]
    have h403 := (hfk 403 (by decide)).2.trans h403
    have hK := hK.trk hfk
    refine V_nm xv_b ?_
    refine V_istore C dL_isPassed_54 (by decide) ?_
    refine V_aload_n C dL_isPassed_56 rfl ?_
    refine V_iconst (v := 4) C dL_isPassed_57 rfl ?_
    refine V_dup2 C dL_isPassed_58 rfl rfl ?_
    refine V_iald C dL_isPassed_59 h403 (show _ = nI 4 from rfl) (by decide) (by decide) ?_
    refine V_nm g4 ?_
    refine V_iload C dL_isPassed_60 rfl ?_
    refine V_ifeq_t (tgt := 69) C dL_isPassed_62 (by decide) rfl ?_
    refine V_iconst (v := 0) C dL_isPassed_69 rfl ?_
    refine V_iadd C dL_isPassed_70 ?_
    refine V_nm (nI_add _ 0) ?_
    refine G_iast C dL_isPassed_71 h403 (show _ = nI 4 from rfl) (by decide) (by decide) (fun F5 h403 hfr => ?_)
    have hC := hC.keptF hI2 (fun c hc => hfr c (by omega))
    have hK := hK.st hfr (by decide)
    refine V_iconst (v := 0) C dL_isPassed_72 rfl ?_
    refine V_istore C dL_isPassed_73 (by decide) ?_
    refine V_iload C dL_isPassed_75 rfl ?_
    refine V_iconst (v := 3) C dL_isPassed_77 rfl ?_
    refine V_icmpge_f (tgt := 98) C dL_isPassed_78 (by decide) (by decide) ?_
    refine V_iload C dL_isPassed_81 rfl ?_
    refine V_aload_n C dL_isPassed_83 rfl ?_
    refine V_iload C dL_isPassed_84 rfl ?_
    refine V_invV (c0 := 0) C dL_isPassed_86 hC.1 rfl (q_underWay s 0 hC hI2 (by decide)) mv_L_81 rfl (Nat.le_of_ble_eq_true rfl) ⟨Nat.le_of_ble_eq_true rfl, Nat.le_of_ble_eq_true rfl⟩ ⟨(Nat.le_of_ble_eq_true rfl), (Nat.le_of_ble_eq_true rfl)⟩ (fun _ _ _ h => VT_no h) (fun v ad6 F6 hp => ?_)
    obtain ⟨rfl, hC, hfk⟩ := hp
    rw [show ad4 0 = ad6 0 from hfk.a0.symm, show ad4 403 = ad6 403 from (hfk.ad (by decide)).symm]
    have h403 := (hfk 403 (by decide)).2.trans h403
    have hK := hK.trk hfk
    refine V_iadd C dL_isPassed_89 ?_
    refine V_istore C dL_isPassed_90 (by decide) ?_
    refine V_iinc C dL_isPassed_92 rfl (show (0 : Int32) + Int32.ofInt 1 = 1 by decide) (by decide) ?_
    refine V_goto (tgt := 75) C dL_isPassed_95 (by decide) ?_
    refine V_iload C dL_isPassed_75 rfl ?_
    refine V_iconst (v := 3) C dL_isPassed_77 rfl ?_
    refine V_icmpge_f (tgt := 98) C dL_isPassed_78 (by decide) (by decide) ?_
    refine V_iload C dL_isPassed_81 rfl ?_
    refine V_aload_n C dL_isPassed_83 rfl ?_
    refine V_iload C dL_isPassed_84 rfl ?_
    refine V_invV (c0 := 0) C dL_isPassed_86 hC.1 rfl (q_underWay s 1 hC hI2 (by decide)) mv_L_81 rfl (Nat.le_of_ble_eq_true rfl) ⟨Nat.le_of_ble_eq_true rfl, Nat.le_of_ble_eq_true rfl⟩ ⟨(Nat.le_of_ble_eq_true rfl), (Nat.le_of_ble_eq_true rfl)⟩ (fun _ _ _ h => VT_no h) (fun v ad7 F7 hp => ?_)
    obtain ⟨rfl, hC, hfk⟩ := hp
    rw [show ad6 0 = ad7 0 from hfk.a0.symm, show ad6 403 = ad7 403 from (hfk.ad (by decide)).symm]
    have h403 := (hfk 403 (by decide)).2.trans h403
    have hK := hK.trk hfk
    refine V_iadd C dL_isPassed_89 ?_
    refine V_istore C dL_isPassed_90 (by decide) ?_
    refine V_iinc C dL_isPassed_92 rfl (show (1 : Int32) + Int32.ofInt 1 = 2 by decide) (by decide) ?_
    refine V_goto (tgt := 75) C dL_isPassed_95 (by decide) ?_
    refine V_iload C dL_isPassed_75 rfl ?_
    refine V_iconst (v := 3) C dL_isPassed_77 rfl ?_
    refine V_icmpge_f (tgt := 98) C dL_isPassed_78 (by decide) (by decide) ?_
    refine V_iload C dL_isPassed_81 rfl ?_
    refine V_aload_n C dL_isPassed_83 rfl ?_
    refine V_iload C dL_isPassed_84 rfl ?_
    refine V_invV (c0 := 0) C dL_isPassed_86 hC.1 rfl (q_underWay s 2 hC hI2 (by decide)) mv_L_81 rfl (Nat.le_of_ble_eq_true rfl) ⟨Nat.le_of_ble_eq_true rfl, Nat.le_of_ble_eq_true rfl⟩ ⟨(Nat.le_of_ble_eq_true rfl), (Nat.le_of_ble_eq_true rfl)⟩ (fun _ _ _ h => VT_no h) (fun v ad8 F8 hp => ?_)
    obtain ⟨rfl, hC, hfk⟩ := hp
    rw [show ad7 0 = ad8 0 from hfk.a0.symm, show ad7 403 = ad8 403 from (hfk.ad (by decide)).symm]
    have h403 := (hfk 403 (by decide)).2.trans h403
    have hK := hK.trk hfk
    refine V_iadd C dL_isPassed_89 ?_
    refine V_istore C dL_isPassed_90 (by decide) ?_
    refine V_iinc C dL_isPassed_92 rfl (show (2 : Int32) + Int32.ofInt 1 = 3 by decide) (by decide) ?_
    refine V_goto (tgt := 75) C dL_isPassed_95 (by decide) ?_
    refine V_iload C dL_isPassed_75 rfl ?_
    refine V_iconst (v := 3) C dL_isPassed_77 rfl ?_
    refine V_icmpge_t (tgt := 98) C dL_isPassed_78 (by decide) (by decide) ?_
    refine V_iload C dL_isPassed_98 rfl ?_
    refine V_iload C dL_isPassed_100 rfl ?_
    refine V_ifeq_t (tgt := 110) C dL_isPassed_102 (by decide) rfl ?_
    refine V_bipush (v := (-20)) C dL_isPassed_110 (by decide) ?_
    refine V_icmpne_f (tgt := 119) C dL_isPassed_112 (by decide) rfl ?_
    refine V_iconst (v := 1) C dL_isPassed_115 rfl ?_
    refine V_goto (tgt := 120) C dL_isPassed_116 (by decide) ?_
    exact V_ireturn C Q dL_isPassed_120 rfl (Nat.le_of_ble_eq_true rfl) (Nat.le_of_ble_eq_true rfl) ⟨rfl, hC, hK, _, h403, g0, g1, g2, g3, rfl, g5⟩
  have good : 0 < y → y < 201 → V X 0 0 18 [(0, .ref (ad 0)), (1, .ref (ad 401)), (2, .ref (ad 403)), (3, .int (nI y)), (4, .int 1)] [] ad F := by
    intro hy0 hy1
    have e : spPass s (nI y) = (0, nI (pasN s y).2, (pasN s y).1) := by
      unfold spPass
      rw [if_neg, ey]
      rintro (h | h)
      · exact nI_nlt (b := 1) hy0 (by omega) h
      · exact nI_nlt (a := 200) (by omega) (by decide) h
    rw [e] at Q hQ2
    have hI2 : Inv (pasN s y).1 := hQ2.1.1
    have hsum : (zRw (pasN s y).1 1).length + (zRw (pasN s y).1 3).length + (zRw (pasN s y).1 5).length = (zRw s 1).length + (zRw s 3).length + (zRw s 5).length + (pasN s y).2 := (ex_pas hI hQ.2 y (by omega)).2.2
    refine V_iconst (v := 0) C dL_isPassed_18 rfl ?_
    refine V_istore C dL_isPassed_19 (by decide) ?_
    refine V_iconst (v := 0) C dL_isPassed_21 rfl ?_
    refine V_istore C dL_isPassed_22 (by decide) ?_
    refine V_iload C dL_isPassed_24 rfl ?_
    refine V_iconst (v := 3) C dL_isPassed_26 rfl ?_
    refine V_icmpge_f (tgt := 47) C dL_isPassed_27 (by decide) (by decide) ?_
    refine V_iload C dL_isPassed_30 rfl ?_
    refine V_aload_n C dL_isPassed_32 rfl ?_
    refine V_iload C dL_isPassed_33 rfl ?_
    refine V_invV (c0 := 0) C dL_isPassed_35 hC.1 rfl (q_underWay s 0 hC hI (by decide)) mv_L_81 rfl (Nat.le_of_ble_eq_true rfl) ⟨Nat.le_of_ble_eq_true rfl, Nat.le_of_ble_eq_true rfl⟩ ⟨(Nat.le_of_ble_eq_true rfl), (Nat.le_of_ble_eq_true rfl)⟩ (fun _ _ _ h => VT_no h) (fun v ad1 F1 hp => ?_)
    obtain ⟨rfl, hC, hfk⟩ := hp
    rw [show ad 0 = ad1 0 from hfk.a0.symm, show ad 403 = ad1 403 from (hfk.ad (by decide)).symm]
    have h403 := (hfk 403 (by decide)).2.trans h403
    have hK := hK.trk hfk
    refine V_isub C dL_isPassed_38 ?_
    refine V_istore C dL_isPassed_39 (by decide) ?_
    refine V_iinc C dL_isPassed_41 rfl (show (0 : Int32) + Int32.ofInt 1 = 1 by decide) (by decide) ?_
    refine V_goto (tgt := 24) C dL_isPassed_44 (by decide) ?_
    refine V_iload C dL_isPassed_24 rfl ?_
    refine V_iconst (v := 3) C dL_isPassed_26 rfl ?_
    refine V_icmpge_f (tgt := 47) C dL_isPassed_27 (by decide) (by decide) ?_
    refine V_iload C dL_isPassed_30 rfl ?_
    refine V_aload_n C dL_isPassed_32 rfl ?_
    refine V_iload C dL_isPassed_33 rfl ?_
    refine V_invV (c0 := 0) C dL_isPassed_35 hC.1 rfl (q_underWay s 1 hC hI (by decide)) mv_L_81 rfl (Nat.le_of_ble_eq_true rfl) ⟨Nat.le_of_ble_eq_true rfl, Nat.le_of_ble_eq_true rfl⟩ ⟨(Nat.le_of_ble_eq_true rfl), (Nat.le_of_ble_eq_true rfl)⟩ (fun _ _ _ h => VT_no h) (fun v ad2 F2 hp => ?_)
    obtain ⟨rfl, hC, hfk⟩ := hp
    rw [show ad1 0 = ad2 0 from hfk.a0.symm, show ad1 403 = ad2 403 from (hfk.ad (by decide)).symm]
    have h403 := (hfk 403 (by decide)).2.trans h403
    have hK := hK.trk hfk
    refine V_isub C dL_isPassed_38 ?_
    refine V_istore C dL_isPassed_39 (by decide) ?_
    refine V_iinc C dL_isPassed_41 rfl (show (1 : Int32) + Int32.ofInt 1 = 2 by decide) (by decide) ?_
    refine V_goto (tgt := 24) C dL_isPassed_44 (by decide) ?_
    refine V_iload C dL_isPassed_24 rfl ?_
    refine V_iconst (v := 3) C dL_isPassed_26 rfl ?_
    refine V_icmpge_f (tgt := 47) C dL_isPassed_27 (by decide) (by decide) ?_
    refine V_iload C dL_isPassed_30 rfl ?_
    refine V_aload_n C dL_isPassed_32 rfl ?_
    refine V_iload C dL_isPassed_33 rfl ?_
    refine V_invV (c0 := 0) C dL_isPassed_35 hC.1 rfl (q_underWay s 2 hC hI (by decide)) mv_L_81 rfl (Nat.le_of_ble_eq_true rfl) ⟨Nat.le_of_ble_eq_true rfl, Nat.le_of_ble_eq_true rfl⟩ ⟨(Nat.le_of_ble_eq_true rfl), (Nat.le_of_ble_eq_true rfl)⟩ (fun _ _ _ h => VT_no h) (fun v ad3 F3 hp => ?_)
    obtain ⟨rfl, hC, hfk⟩ := hp
    rw [show ad2 0 = ad3 0 from hfk.a0.symm, show ad2 403 = ad3 403 from (hfk.ad (by decide)).symm]
    have h403 := (hfk 403 (by decide)).2.trans h403
    have hK := hK.trk hfk
    refine V_isub C dL_isPassed_38 ?_
    refine V_istore C dL_isPassed_39 (by decide) ?_
    refine V_iinc C dL_isPassed_41 rfl (show (2 : Int32) + Int32.ofInt 1 = 3 by decide) (by decide) ?_
    refine V_goto (tgt := 24) C dL_isPassed_44 (by decide) ?_
    refine V_iload C dL_isPassed_24 rfl ?_
    refine V_iconst (v := 3) C dL_isPassed_26 rfl ?_
    refine V_icmpge_t (tgt := 47) C dL_isPassed_27 (by decide) (by decide) ?_
    refine V_aload_n C dL_isPassed_47 rfl ?_
    refine V_iconst (v := 2) C dL_isPassed_48 rfl ?_
    refine V_iload_n C dL_isPassed_49 rfl ?_
    refine V_iconst (v := 0) C dL_isPassed_50 rfl ?_
    refine V_invH C dL_isPassed_51 (d_pass s (nI y) 0 hC hI hb) mh_L_107 rfl (Nat.le_of_ble_eq_true rfl) ⟨Nat.le_of_ble_eq_true rfl, Nat.le_of_ble_eq_true rfl⟩ ⟨(Nat.le_of_ble_eq_true rfl), (Nat.le_of_ble_eq_true rfl)⟩ (fun _ _ _ h => VT_no h) (fun v ad4 F4 hp => ?_)
    rw [e] at hp
    obtain ⟨rfl, hC, hfk⟩ := hp
    rw [show ad3 0 = ad4 0 from hfk.a0.symm, show ad3 403 = ad4 403 from (hfk.ad (by decide)).symm]
    have h403 := (hfk 403 (by decide)).2.trans h403
    have hK := hK.trk hfk
    refine V_nm xv_ok ?_
    refine V_istore C dL_isPassed_54 (by decide) ?_
    refine V_aload_n C dL_isPassed_56 rfl ?_
    refine V_iconst (v := 4) C dL_isPassed_57 rfl ?_
    refine V_dup2 C dL_isPassed_58 rfl rfl ?_
    refine V_iald C dL_isPassed_59 h403 (show _ = nI 4 from rfl) (by decide) (by decide) ?_
    refine V_nm g4 ?_
    refine V_iload C dL_isPassed_60 rfl ?_
    refine V_ifeq_f (tgt := 69) C dL_isPassed_62 (by decide) (by decide) ?_
    refine V_iload_n C dL_isPassed_65 rfl ?_
    refine V_goto (tgt := 70) C dL_isPassed_66 (by decide) ?_
    refine V_iadd C dL_isPassed_70 ?_
    refine V_nm (nI_add _ _) ?_
    refine G_iast C dL_isPassed_71 h403 (show _ = nI 4 from rfl) (by decide) (by decide) (fun F5 h403 hfr => ?_)
    have hC := hC.keptF hI2 (fun c hc => hfr c (by omega))
    have hK := hK.st hfr (by decide)
    refine V_iconst (v := 0) C dL_isPassed_72 rfl ?_
    refine V_istore C dL_isPassed_73 (by decide) ?_
    refine V_iload C dL_isPassed_75 rfl ?_
    refine V_iconst (v := 3) C dL_isPassed_77 rfl ?_
    refine V_icmpge_f (tgt := 98) C dL_isPassed_78 (by decide) (by decide) ?_
    refine V_iload C dL_isPassed_81 rfl ?_
    refine V_aload_n C dL_isPassed_83 rfl ?_
    refine V_iload C dL_isPassed_84 rfl ?_
    refine V_invV (c0 := 0) C dL_isPassed_86 hC.1 rfl (q_underWay (pasN s y).1 0 hC hI2 (by decide)) mv_L_81 rfl (Nat.le_of_ble_eq_true rfl) ⟨Nat.le_of_ble_eq_true rfl, Nat.le_of_ble_eq_true rfl⟩ ⟨(Nat.le_of_ble_eq_true rfl), (Nat.le_of_ble_eq_true rfl)⟩ (fun _ _ _ h => VT_no h) (fun v ad6 F6 hp => ?_)
    obtain ⟨rfl, hC, hfk⟩ := hp
    rw [show ad4 0 = ad6 0 from hfk.a0.symm, show ad4 403 = ad6 403 from (hfk.ad (by decide)).symm]
    have h403 := (hfk 403 (by decide)).2.trans h403
    have hK := hK.trk hfk
    refine V_iadd C dL_isPassed_89 ?_
    refine V_istore C dL_isPassed_90 (by decide) ?_
    refine V_iinc C dL_isPassed_92 rfl (show (0 : Int32) + Int32.ofInt 1 = 1 by decide) (by decide) ?_
    refine V_goto (tgt := 75) C dL_isPassed_95 (by decide) ?_
    refine V_iload C dL_isPassed_75 rfl ?_
    refine V_iconst (v := 3) C dL_isPassed_77 rfl ?_
    refine V_icmpge_f (tgt := 98) C dL_isPassed_78 (by decide) (by decide) ?_
    refine V_iload C dL_isPassed_81 rfl ?_
    refine V_aload_n C dL_isPassed_83 rfl ?_
    refine V_iload C dL_isPassed_84 rfl ?_
    refine V_invV (c0 := 0) C dL_isPassed_86 hC.1 rfl (q_underWay (pasN s y).1 1 hC hI2 (by decide)) mv_L_81 rfl (Nat.le_of_ble_eq_true rfl) ⟨Nat.le_of_ble_eq_true rfl, Nat.le_of_ble_eq_true rfl⟩ ⟨(Nat.le_of_ble_eq_true rfl), (Nat.le_of_ble_eq_true rfl)⟩ (fun _ _ _ h => VT_no h) (fun v ad7 F7 hp => ?_)
    obtain ⟨rfl, hC, hfk⟩ := hp
    rw [show ad6 0 = ad7 0 from hfk.a0.symm, show ad6 403 = ad7 403 from (hfk.ad (by decide)).symm]
    have h403 := (hfk 403 (by decide)).2.trans h403
    have hK := hK.trk hfk
    refine V_iadd C dL_isPassed_89 ?_
    refine V_istore C dL_isPassed_90 (by decide) ?_
    refine V_iinc C dL_isPassed_92 rfl (show (1 : Int32) + Int32.ofInt 1 = 2 by decide) (by decide) ?_
    refine V_goto (tgt := 75) C dL_isPassed_95 (by decide) ?_
    refine V_iload C dL_isPassed_75 rfl ?_
    refine V_iconst (v := 3) C dL_isPassed_77 rfl ?_
    refine V_icmpge_f (tgt := 98) C dL_isPassed_78 (by decide) (by decide) ?_
    refine V_iload C dL_isPassed_81 rfl ?_
    refine V_aload_n C dL_isPassed_83 rfl ?_
    refine V_iload C dL_isPassed_84 rfl ?_
    refine V_invV (c0 := 0) C dL_isPassed_86 hC.1 rfl (q_underWay (pasN s y).1 2 hC hI2 (by decide)) mv_L_81 rfl (Nat.le_of_ble_eq_true rfl) ⟨Nat.le_of_ble_eq_true rfl, Nat.le_of_ble_eq_true rfl⟩ ⟨(Nat.le_of_ble_eq_true rfl), (Nat.le_of_ble_eq_true rfl)⟩ (fun _ _ _ h => VT_no h) (fun v ad8 F8 hp => ?_)
    obtain ⟨rfl, hC, hfk⟩ := hp
    rw [show ad7 0 = ad8 0 from hfk.a0.symm, show ad7 403 = ad8 403 from (hfk.ad (by decide)).symm]
    have h403 := (hfk 403 (by decide)).2.trans h403
    have hK := hK.trk hfk
    refine V_iadd C dL_isPassed_89 ?_
    refine V_istore C dL_isPassed_90 (by decide) ?_
    refine V_iinc C dL_isPassed_92 rfl (show (2 : Int32) + Int32.ofInt 1 = 3 by decide) (by decide) ?_
    refine V_goto (tgt := 75) C dL_isPassed_95 (by decide) ?_
    refine V_iload C dL_isPassed_75 rfl ?_
    refine V_iconst (v := 3) C dL_isPassed_77 rfl ?_
    refine V_icmpge_t (tgt := 98) C dL_isPassed_78 (by decide) (by decide) ?_
    refine V_iload C dL_isPassed_98 rfl ?_
    refine V_iload C dL_isPassed_100 rfl ?_
    refine V_ifeq_f (tgt := 110) C dL_isPassed_102 (by decide) (by decide) ?_
    refine V_iload C dL_isPassed_105 rfl ?_
    refine V_goto (tgt := 112) C dL_isPassed_107 (by decide) ?_
    refine V_nm (und_eq hsum) ?_
    refine V_icmpne_f (tgt := 119) C dL_isPassed_112 (by decide) rfl ?_
    refine V_iconst (v := 1) C dL_isPassed_115 rfl ?_
    refine V_goto (tgt := 120) C dL_isPassed_116 (by decide) ?_
    exact V_ireturn C Q dL_isPassed_120 rfl (Nat.le_of_ble_eq_true rfl) (Nat.le_of_ble_eq_true rfl) ⟨rfl, hC, hK, _, h403, g0, g1, g2, g3, by rw [pas_now]; rfl, g5⟩
  refine V_iload_n C dL_isPassed_0 rfl ?_
  by_cases hq2 : 0 < y
  · refine V_ifle_f (tgt := 15) C dL_isPassed_1 (by decide) (nI_nle hq2 (by omega)) ?_
    refine V_iload_n C dL_isPassed_4 rfl ?_
    refine V_sipush (v := 201) C dL_isPassed_5 (by decide) ?_
    by_cases hq3 : y < 201
    · refine V_icmpge_f (tgt := 15) C dL_isPassed_8 (by decide) (nI_ge (b := 201) hq3 (by decide)) ?_
      refine V_iconst (v := 1) C dL_isPassed_11 rfl ?_
      refine V_goto (tgt := 16) C dL_isPassed_12 (by decide) ?_
      refine V_istore C dL_isPassed_16 (by decide) ?_
      exact V_sb (good hq2 hq3) ⟨rfl, rfl, rfl, rfl, rfl, trivial⟩
    · refine V_icmpge_t (tgt := 15) C dL_isPassed_8 (by decide) (nI_le (a := 201) (Nat.le_of_not_lt hq3) (by omega)) ?_
      refine V_iconst (v := 0) C dL_isPassed_15 rfl ?_
      refine V_istore C dL_isPassed_16 (by decide) ?_
      exact V_sb (bad (by omega)) ⟨rfl, rfl, rfl, rfl, rfl, trivial⟩
  · refine V_ifle_t (tgt := 15) C dL_isPassed_1 (by decide) (by rw [show y = 0 by omega]; decide) ?_
    refine V_iconst (v := 0) C dL_isPassed_15 rfl ?_
    refine V_istore C dL_isPassed_16 (by decide) ?_
    exact V_sb (bad (by omega)) ⟨rfl, rfl, rfl, rfl, rfl, trivial⟩
