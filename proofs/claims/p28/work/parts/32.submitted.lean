/-! ===== the law: isSubmitted ===== -/
theorem bit_all : ∀ n, n < 7 → bitc (2 ^ n - 1) 10 = n := by decide +kernel
set_option maxHeartbeats 2000000 in
set_option maxRecDepth 100000 in
/-- isSubmitted -/
theorem l_isSubmitted {l : Launch} {D : Dx} {b0 : Nat} {ad : Nat → Nat} {F : Fn} (s : St) (x y rcn : Nat) (hC : CRep D ad F s) (hQ : Kq s) (hZ : LZ D F (zMc s) (zRc s) (zSt s) (zMs s)) (hG : LG D F (zTxt s) (zMc s) (zNow s) rcn) (hx : x < 10) (hy : y < 2 ^ 20) : Ct l D b0 yL_isSubmitted (wsA yL_isSubmitted cL_isSubmitted 10 (some .boolean)) rAct [.ref (ad 0), .ref (ad 400), .ref (ad 403), .int (nI x), .int (nI y)] ad F (fun r ad1 F1 => r = some (.int 1) ∧ CRep D ad1 F1 (spSub s (nI x) (nI y)).2.2 ∧ FrL [400, 403] ad F ad1 F1 ∧ LZ D F1 (zMc (spSub s (nI x) (nI y)).2.2) (zRc (spSub s (nI x) (nI y)).2.2) (zSt (spSub s (nI x) (nI y)).2.2) (zMs (spSub s (nI x) (nI y)).2.2) ∧ LG D F1 (zTxt (spSub s (nI x) (nI y)).2.2) (zMc (spSub s (nI x) (nI y)).2.2) (zNow s) rcn) noX := by
  refine Ct.of (by decide +kernel) (by simp [Value.category]) (Nat.le_of_ble_eq_true rfl) (fun X eD eb el C Q => ?_)
  subst eD; subst eb; subst el
  have hI := hQ.1.1
  obtain ⟨g, h403, g0, g1, g2, g3, g4, g5⟩ := hG
  obtain ⟨z, h400, hz⟩ := hZ
  have hL := hI.2.2.1
  have h20 := hI.2.1
  have h6 := (npL_spec hL).1
  have ex : (nI x).toNatClampNeg = x := nI_clamp (by omega)
  have ey : (nI y).toNatClampNeg = y := nI_clamp (by omega)
  have hl3 : x % 3 < 3 := Nat.mod_lt _ (by decide)
  have hcap := row_cap hI hl3
  have hK : FrL [400, 403] ad F ad F := FrL.rf
  have hQ2 := (kq_sub (a := nI x) (b := nI y) hQ).1
  have fails : ∀ (i : Nat) (v : Int32), spSub s (nI x) (nI y) = (i + 1, 0, s) → xv [(-20), (-10)] (i + 1, 0, s) = v → ¬ 0 ≤ v → ∀ (adk : Nat → Nat) (Fk : Fn), CRep (xD X) adk Fk s → Fk 400 = some (aI (xD X) 60 z) → Fk 403 = some (aI (xD X) 6 g) → FrL [400, 403] ad F adk Fk → V X 3 18 79 [(0, .ref (adk 0)), (1, .ref (adk 400)), (2, .ref (adk 403)), (3, .int (nI x)), (4, .int (nI y)), (6, .int (nI (npL (zTxt s)))), (7, .int (nI (x % 3))), (8, .int (nI (zRw s (2 * (x % 3))).length)), (9, .int v)] [] adk Fk := by
    intro i v e ev hv adk Fk hC h400 h403 hK
    rw [e] at Q
    refine V_aload_n C dL_isSubmitted_79 rfl ?_
    refine V_iconst (v := 1) C dL_isSubmitted_80 rfl ?_
    refine V_iload_n C dL_isSubmitted_81 rfl ?_
    refine V_iload C dL_isSubmitted_82 rfl ?_
    refine V_invH C dL_isSubmitted_84 (d_submit s (nI x) (nI y) hC hI) mh_L_107 rfl (Nat.le_of_ble_eq_true rfl) ⟨Nat.le_of_ble_eq_true rfl, Nat.le_of_ble_eq_true rfl⟩ ⟨(Nat.le_of_ble_eq_true rfl), (Nat.le_of_ble_eq_true rfl)⟩ (fun _ _ _ h => VT_no h) (fun v ad1 F1 hp => ?_)
    rw [e] at hp
    obtain ⟨rfl, hC, hfk⟩ := hp
    rw [show adk 0 = ad1 0 from hfk.a0.symm, show adk 400 = ad1 400 from (hfk.ad (by decide)).symm, show adk 403 = ad1 403 from (hfk.ad (by decide)).symm]
    have h400 := (hfk 400 (by decide)).2.trans h400
    have h403 := (hfk 403 (by decide)).2.trans h403
    have hK := hK.trk hfk
    refine V_nm ev ?_
    refine V_iload C dL_isSubmitted_87 rfl ?_
    refine V_icmpeq_t (tgt := 94) C dL_isSubmitted_89 (by decide) rfl ?_
    refine V_iload C dL_isSubmitted_94 rfl ?_
    refine V_ifge_f (tgt := 116) C dL_isSubmitted_96 (by decide) hv ?_
    refine V_aload_n C dL_isSubmitted_99 rfl ?_
    refine V_iload C dL_isSubmitted_100 rfl ?_
    refine V_invV (c0 := 0) C dL_isSubmitted_102 hC.1 rfl (q_queued s (x % 3) hC hI hl3) mv_L_78 rfl (Nat.le_of_ble_eq_true rfl) ⟨Nat.le_of_ble_eq_true rfl, Nat.le_of_ble_eq_true rfl⟩ ⟨(Nat.le_of_ble_eq_true rfl), (Nat.le_of_ble_eq_true rfl)⟩ (fun _ _ _ h => VT_no h) (fun v ad2 F2 hp => ?_)
    obtain ⟨rfl, hC, hfk⟩ := hp
    rw [show ad1 0 = ad2 0 from hfk.a0.symm, show ad1 400 = ad2 400 from (hfk.ad (by decide)).symm, show ad1 403 = ad2 403 from (hfk.ad (by decide)).symm]
    have h400 := (hfk 400 (by decide)).2.trans h400
    have h403 := (hfk 403 (by decide)).2.trans h403
    have hK := hK.trk hfk
    refine V_iload C dL_isSubmitted_105 rfl ?_
    refine V_icmpne_f (tgt := 114) C dL_isSubmitted_107 (by decide) rfl ?_
    refine V_iconst (v := 1) C dL_isSubmitted_110 rfl ?_
    refine V_goto (tgt := 115) C dL_isSubmitted_111 (by decide) ?_
    exact V_ireturn C Q dL_isSubmitted_115 rfl (Nat.le_of_ble_eq_true rfl) (Nat.le_of_ble_eq_true rfl) ⟨rfl, hC, hK, ⟨z, h400, hz⟩, g, h403, g0, g1, g2, g3, g4, g5⟩
  have goes : x < 9 → 0 < y → y < 1001 → (zTxt s).length ≠ 0 → zMc s < 20 → ∀ (adk : Nat → Nat) (Fk : Fn), CRep (xD X) adk Fk s → Fk 400 = some (aI (xD X) 60 z) → Fk 403 = some (aI (xD X) 6 g) → FrL [400, 403] ad F adk Fk → V X 3 18 79 [(0, .ref (adk 0)), (1, .ref (adk 400)), (2, .ref (adk 403)), (3, .int (nI x)), (4, .int (nI y)), (6, .int (nI (npL (zTxt s)))), (7, .int (nI (x % 3))), (8, .int (nI (zRw s (2 * (x % 3))).length)), (9, .int (nI (zMc s)))] [] adk Fk := by
    intro hx9 hy0 hy1 hne hmc adk Fk hC h400 h403 hK
    have e : spSub s (nI x) (nI y) = (0, nI (zMc s), nwS s x y) := by
      unfold spSub
      rw [if_neg (nbad hx9 (by decide)), if_neg, if_neg, ex, ey]
      · rintro (h | h) <;> omega
      · rintro (h | h)
        · exact nI_nlt (b := 1) hy0 (by omega) h
        · exact nI_nlt (a := 1000) (by omega) (by decide) h
    rw [e] at Q hQ2
    have hI2 : Inv (nwS s x y) := hQ2.1.1
    have hmc1 : zMc s < zMc (nwS s x y) := Nat.lt_succ_self _
    have hq2 : (zRw (nwS s x y) (2 * (x % 3))).length = (zRw s (2 * (x % 3))).length + npL (zTxt s) := by
      rw [nwS_row, if_pos rfl, List.length_append, nps_len]
    have hlk2 : zLk (nwS s x y) (zMc s) = 2 ^ npL (zTxt s) - 1 := up_s
    have hst2 : zSt (nwS s x y) (zMc s) = 0 := up_s
    have hlk64 := lk_64 hI2 hmc1
    refine V_aload_n C dL_isSubmitted_79 rfl ?_
    refine V_iconst (v := 1) C dL_isSubmitted_80 rfl ?_
    refine V_iload_n C dL_isSubmitted_81 rfl ?_
    refine V_iload C dL_isSubmitted_82 rfl ?_
    refine V_invH C dL_isSubmitted_84 (d_submit s (nI x) (nI y) hC hI) mh_L_107 rfl (Nat.le_of_ble_eq_true rfl) ⟨Nat.le_of_ble_eq_true rfl, Nat.le_of_ble_eq_true rfl⟩ ⟨(Nat.le_of_ble_eq_true rfl), (Nat.le_of_ble_eq_true rfl)⟩ (fun _ _ _ h => VT_no h) (fun v ad1 F1 hp => ?_)
    rw [e] at hp
    obtain ⟨rfl, hC, hfk⟩ := hp
    rw [show adk 0 = ad1 0 from hfk.a0.symm, show adk 400 = ad1 400 from (hfk.ad (by decide)).symm, show adk 403 = ad1 403 from (hfk.ad (by decide)).symm]
    have h400 := (hfk 400 (by decide)).2.trans h400
    have h403 := (hfk 403 (by decide)).2.trans h403
    have hK := hK.trk hfk
    refine V_nm xv_ok ?_
    refine V_iload C dL_isSubmitted_87 rfl ?_
    refine V_icmpeq_t (tgt := 94) C dL_isSubmitted_89 (by decide) rfl ?_
    refine V_iload C dL_isSubmitted_94 rfl ?_
    refine V_ifge_t (tgt := 116) C dL_isSubmitted_96 (by decide) (nI_pos' (by omega)) ?_
    refine V_aload_n C dL_isSubmitted_116 rfl ?_
    refine V_iload C dL_isSubmitted_117 rfl ?_
    refine V_iload_n C dL_isSubmitted_119 rfl ?_
    refine G_iast C dL_isSubmitted_120 h400 rfl (show zMc s < 60 by omega) (by decide) (fun F2 h400 hfr => ?_)
    have h403 := (hfr 403 (by decide)).trans h403
    have hC := hC.keptF hI2 (fun c hc => hfr c (by omega))
    have hK := hK.st hfr (by decide)
    refine V_aload_n C dL_isSubmitted_121 rfl ?_
    refine V_bipush (v := 20) C dL_isSubmitted_122 (by decide) ?_
    refine V_iload C dL_isSubmitted_124 rfl ?_
    refine V_iadd C dL_isSubmitted_126 ?_
    refine V_nm (nI_add 20 _) ?_
    refine V_iconst (v := 0) C dL_isSubmitted_127 rfl ?_
    refine G_iast C dL_isSubmitted_128 h400 rfl (show 20 + zMc s < 60 by omega) (by decide) (fun F3 h400 hfr => ?_)
    have h403 := (hfr 403 (by decide)).trans h403
    have hC := hC.keptF hI2 (fun c hc => hfr c (by omega))
    have hK := hK.st hfr (by decide)
    refine V_aload_n C dL_isSubmitted_129 rfl ?_
    refine V_bipush (v := 40) C dL_isSubmitted_130 (by decide) ?_
    refine V_iload C dL_isSubmitted_132 rfl ?_
    refine V_iadd C dL_isSubmitted_134 ?_
    refine V_nm (nI_add 40 _) ?_
    refine V_aload_n C dL_isSubmitted_135 rfl ?_
    refine V_iconst (v := 0) C dL_isSubmitted_136 rfl ?_
    refine V_iald C dL_isSubmitted_137 h403 (show _ = nI 0 from rfl) (by decide) (by decide) ?_
    refine V_nm g0 ?_
    refine G_iast C dL_isSubmitted_138 h400 rfl (show 40 + zMc s < 60 by omega) (by decide) (fun F4 h400 hfr => ?_)
    have h403 := (hfr 403 (by decide)).trans h403
    have hC := hC.keptF hI2 (fun c hc => hfr c (by omega))
    have hK := hK.st hfr (by decide)
    refine V_aload_n C dL_isSubmitted_139 rfl ?_
    refine V_iconst (v := 3) C dL_isSubmitted_140 rfl ?_
    refine V_dup2 C dL_isSubmitted_141 rfl rfl ?_
    refine V_iald C dL_isSubmitted_142 h403 (show _ = nI 3 from rfl) (by decide) (by decide) ?_
    refine V_nm g3 ?_
    refine V_iconst (v := 1) C dL_isSubmitted_143 rfl ?_
    refine V_iadd C dL_isSubmitted_144 ?_
    refine V_nm (nI_1 _) ?_
    refine G_iast C dL_isSubmitted_145 h403 (show _ = nI 3 from rfl) (by decide) (by decide) (fun F5 h403 hfr => ?_)
    have h400 := (hfr 400 (by decide)).trans h400
    have hC := hC.keptF hI2 (fun c hc => hfr c (by omega))
    have hK := hK.st hfr (by decide)
    refine V_aload_n C dL_isSubmitted_146 rfl ?_
    refine V_invS C dL_isSubmitted_147 (l_clears _ h403) ms_L_110 rfl (Nat.le_of_ble_eq_true rfl) ⟨Nat.le_of_ble_eq_true rfl, Nat.le_of_ble_eq_true rfl⟩ ⟨(Nat.le_of_ble_eq_true rfl), (Nat.le_of_ble_eq_true rfl)⟩ (fun _ _ _ h => VT_no h) (fun v ad6 F6 hp => ?_)
    obtain ⟨rfl, rfl, h403, hfr⟩ := hp
    have h400 := (hfr 400 (by decide)).trans h400
    have hC := hC.keptF hI2 (fun c hc => hfr c (by omega))
    have hK := hK.st hfr (by decide)
    refine V_aload_n C dL_isSubmitted_150 rfl ?_
    refine V_iload C dL_isSubmitted_151 rfl ?_
    refine V_invV (c0 := 0) C dL_isSubmitted_153 hC.1 rfl (q_queued (nwS s x y) (x % 3) hC hI2 hl3) mv_L_78 rfl (Nat.le_of_ble_eq_true rfl) ⟨Nat.le_of_ble_eq_true rfl, Nat.le_of_ble_eq_true rfl⟩ ⟨(Nat.le_of_ble_eq_true rfl), (Nat.le_of_ble_eq_true rfl)⟩ (fun _ _ _ h => VT_no h) (fun v ad7 F7 hp => ?_)
    obtain ⟨rfl, hC, hfk⟩ := hp
    rw [show ad1 0 = ad7 0 from hfk.a0.symm, show ad1 400 = ad7 400 from (hfk.ad (by decide)).symm, show ad1 403 = ad7 403 from (hfk.ad (by decide)).symm]
    have h400 := (hfk 400 (by decide)).2.trans h400
    have h403 := (hfk 403 (by decide)).2.trans h403
    have hK := hK.trk hfk
    refine V_iload C dL_isSubmitted_156 rfl ?_
    refine V_iload C dL_isSubmitted_158 rfl ?_
    refine V_iadd C dL_isSubmitted_160 ?_
    refine V_nm (nI_add _ _) ?_
    refine V_icmpne_f (tgt := 191) C dL_isSubmitted_161 (by decide) (congrArg nI hq2) ?_
    refine V_aload_n C dL_isSubmitted_164 rfl ?_
    refine V_iload C dL_isSubmitted_165 rfl ?_
    refine V_invV (c0 := 0) C dL_isSubmitted_167 hC.1 rfl (q_missing (nwS s x y) (zMc s) hC hI2 hmc1) mv_L_69 rfl (Nat.le_of_ble_eq_true rfl) ⟨Nat.le_of_ble_eq_true rfl, Nat.le_of_ble_eq_true rfl⟩ ⟨(Nat.le_of_ble_eq_true rfl), (Nat.le_of_ble_eq_true rfl)⟩ (fun _ _ _ h => VT_no h) (fun v ad8 F8 hp => ?_)
    obtain ⟨rfl, hC, hfk⟩ := hp
    rw [show ad7 0 = ad8 0 from hfk.a0.symm, show ad7 400 = ad8 400 from (hfk.ad (by decide)).symm, show ad7 403 = ad8 403 from (hfk.ad (by decide)).symm]
    have h400 := (hfk 400 (by decide)).2.trans h400
    have h403 := (hfk 403 (by decide)).2.trans h403
    have hK := hK.trk hfk
    refine V_invS C dL_isSubmitted_170 (l_bits _ (by omega)) ms_L_104 rfl (Nat.le_of_ble_eq_true rfl) ⟨Nat.le_of_ble_eq_true rfl, Nat.le_of_ble_eq_true rfl⟩ ⟨(Nat.le_of_ble_eq_true rfl), (Nat.le_of_ble_eq_true rfl)⟩ (fun _ _ _ h => VT_no h) (fun v ad9 F9 hp => ?_)
    obtain ⟨rfl, rfl, rfl⟩ := hp
    refine V_iload C dL_isSubmitted_173 rfl ?_
    refine V_icmpne_f (tgt := 191) C dL_isSubmitted_175 (by decide) (congrArg nI (by rw [hlk2]; exact bit_all _ (by omega))) ?_
    refine V_aload_n C dL_isSubmitted_178 rfl ?_
    refine V_iload C dL_isSubmitted_179 rfl ?_
    refine V_invV (c0 := 0) C dL_isSubmitted_181 hC.1 rfl (q_state (nwS s x y) (zMc s) hC hI2 hmc1) mv_L_66 rfl (Nat.le_of_ble_eq_true rfl) ⟨Nat.le_of_ble_eq_true rfl, Nat.le_of_ble_eq_true rfl⟩ ⟨(Nat.le_of_ble_eq_true rfl), (Nat.le_of_ble_eq_true rfl)⟩ (fun _ _ _ h => VT_no h) (fun v ad10 F10 hp => ?_)
    obtain ⟨rfl, hC, hfk⟩ := hp
    rw [show ad8 0 = ad10 0 from hfk.a0.symm, show ad8 400 = ad10 400 from (hfk.ad (by decide)).symm, show ad8 403 = ad10 403 from (hfk.ad (by decide)).symm]
    have h400 := (hfk 400 (by decide)).2.trans h400
    have h403 := (hfk 403 (by decide)).2.trans h403
    have hK := hK.trk hfk
    refine V_ifne_f (tgt := 191) C dL_isSubmitted_184 (by decide) (congrArg nI hst2) ?_
    refine V_iconst (v := 1) C dL_isSubmitted_187 rfl ?_
    refine V_goto (tgt := 192) C dL_isSubmitted_188 (by decide) ?_
    refine V_ireturn C Q dL_isSubmitted_192 rfl (Nat.le_of_ble_eq_true rfl) (Nat.le_of_ble_eq_true rfl) ⟨rfl, hC, hK, ⟨_, h400, fun k hk => ?_⟩, _, h403, rfl, rfl, rfl, rfl, g4, g5⟩
    have hk : k < zMc s + 1 := hk
    show _ = nI (va_up (zRc s) (zMc s) x k) ∧ _ = nI (va_up (zSt s) (zMc s) 0 k) ∧ _ = nI (va_up (zMs s) (zMc s) (zTxt s) k).length
    by_cases ek : k = zMc s
    · subst ek
      rw [up_s, up_s, up_s, pk_un (by omega), pk_un (by omega), pk_us, pk_un (by omega), pk_us, pk_us]
      exact ⟨rfl, rfl, rfl⟩
    · rw [up_n ek, up_n ek, up_n ek, pk_un (by omega), pk_un (by omega), pk_un (by omega), pk_un (by omega), pk_un (by omega), pk_un (by omega), pk_un (by omega), pk_un (by omega), pk_un (by omega)]
      exact hz k (by omega)
  have bad : ¬ (x < 9 ∧ 0 < y ∧ y < 1001) → V X 0 0 23 [(0, .ref (ad 0)), (1, .ref (ad 400)), (2, .ref (ad 403)), (3, .int (nI x)), (4, .int (nI y))] [] ad F := by
    intro hb
    have e : spSub s (nI x) (nI y) = (0 + 1, 0, s) := by
      unfold spSub
      by_cases h9 : x < 9
      · rw [if_neg (nbad h9 (by decide)), if_pos]
        rcases (show y = 0 ∨ 1001 ≤ y by omega) with h | h
        · exact Or.inl (by rw [h]; decide)
        · exact Or.inr (nI_lt (a := 1000) h (by omega))
      · rw [if_pos (Or.inr (nI_le (by omega) (by omega)))]
    refine V_iconst (v := 0) C dL_isSubmitted_23 rfl ?_
    refine V_istore C dL_isSubmitted_24 (by decide) ?_
    refine V_aload_n C dL_isSubmitted_26 rfl ?_
    refine V_invV (c0 := 0) C dL_isSubmitted_27 hC.1 rfl (q_parts s hC hI) mv_L_87 rfl (Nat.le_of_ble_eq_true rfl) ⟨Nat.le_of_ble_eq_true rfl, Nat.le_of_ble_eq_true rfl⟩ ⟨(Nat.le_of_ble_eq_true rfl), (Nat.le_of_ble_eq_true rfl)⟩ (fun _ _ _ h => VT_no h) (fun v ad1 F1 hp => ?_)
    obtain ⟨rfl, hC, hfk⟩ := hp
    rw [show ad 0 = ad1 0 from hfk.a0.symm, show ad 400 = ad1 400 from (hfk.ad (by decide)).symm, show ad 403 = ad1 403 from (hfk.ad (by decide)).symm]
    have h400 := (hfk 400 (by decide)).2.trans h400
    have h403 := (hfk 403 (by decide)).2.trans h403
    have hK := hK.trk hfk
    refine V_istore C dL_isSubmitted_30 (by decide) ?_
    refine V_iload_n C dL_isSubmitted_32 rfl ?_
    refine V_iconst (v := 3) C dL_isSubmitted_33 rfl ?_
    refine V_irem C dL_isSubmitted_34 (by decide) ?_
    refine V_nm (pk_rem (d := 3) (by omega) (by decide) (by decide)) ?_
    refine V_istore C dL_isSubmitted_35 (by decide) ?_
    refine V_aload_n C dL_isSubmitted_37 rfl ?_
    refine V_iload C dL_isSubmitted_38 rfl ?_
    refine V_invV (c0 := 0) C dL_isSubmitted_40 hC.1 rfl (q_queued s (x % 3) hC hI hl3) mv_L_78 rfl (Nat.le_of_ble_eq_true rfl) ⟨Nat.le_of_ble_eq_true rfl, Nat.le_of_ble_eq_true rfl⟩ ⟨(Nat.le_of_ble_eq_true rfl), (Nat.le_of_ble_eq_true rfl)⟩ (fun _ _ _ h => VT_no h) (fun v ad2 F2 hp => ?_)
    obtain ⟨rfl, hC, hfk⟩ := hp
    rw [show ad1 0 = ad2 0 from hfk.a0.symm, show ad1 400 = ad2 400 from (hfk.ad (by decide)).symm, show ad1 403 = ad2 403 from (hfk.ad (by decide)).symm]
    have h400 := (hfk 400 (by decide)).2.trans h400
    have h403 := (hfk 403 (by decide)).2.trans h403
    have hK := hK.trk hfk
    refine V_istore C dL_isSubmitted_43 (by decide) ?_
    refine V_iload C dL_isSubmitted_45 rfl ?_
    refine V_ifne_f (tgt := 55) C dL_isSubmitted_47 (by decide) rfl ?_
    refine V_bipush (v := (-20)) C dL_isSubmitted_50 (by decide) ?_
    refine V_goto (tgt := 77) C dL_isSubmitted_52 (by decide) ?_
    refine V_istore C dL_isSubmitted_77 (by decide) ?_
    exact V_sb (fails 0 (-20) e xv_b (by decide) ad2 F2 hC h400 h403 hK) ⟨rfl, rfl, rfl, rfl, rfl, rfl, rfl, rfl, rfl, trivial⟩
  have good : x < 9 → 0 < y → y < 1001 → V X 0 0 24 [(0, .ref (ad 0)), (1, .ref (ad 400)), (2, .ref (ad 403)), (3, .int (nI x)), (4, .int (nI y))] [.int 1] ad F := by
    intro hx9 hy0 hy1
    have e2 : ((zTxt s).length = 0 ∨ 20 ≤ zMc s) → spSub s (nI x) (nI y) = (1 + 1, 0, s) := by
      intro h
      unfold spSub
      rw [if_neg (nbad hx9 (by decide)), if_neg, if_pos h]
      rintro (h | h)
      · exact nI_nlt (b := 1) hy0 (by omega) h
      · exact nI_nlt (a := 1000) (by omega) (by decide) h
    refine V_istore C dL_isSubmitted_24 (by decide) ?_
    refine V_aload_n C dL_isSubmitted_26 rfl ?_
    refine V_invV (c0 := 0) C dL_isSubmitted_27 hC.1 rfl (q_parts s hC hI) mv_L_87 rfl (Nat.le_of_ble_eq_true rfl) ⟨Nat.le_of_ble_eq_true rfl, Nat.le_of_ble_eq_true rfl⟩ ⟨(Nat.le_of_ble_eq_true rfl), (Nat.le_of_ble_eq_true rfl)⟩ (fun _ _ _ h => VT_no h) (fun v ad1 F1 hp => ?_)
    obtain ⟨rfl, hC, hfk⟩ := hp
    rw [show ad 0 = ad1 0 from hfk.a0.symm, show ad 400 = ad1 400 from (hfk.ad (by decide)).symm, show ad 403 = ad1 403 from (hfk.ad (by decide)).symm]
    have h400 := (hfk 400 (by decide)).2.trans h400
    have h403 := (hfk 403 (by decide)).2.trans h403
    have hK := hK.trk hfk
    refine V_istore C dL_isSubmitted_30 (by decide) ?_
    refine V_iload_n C dL_isSubmitted_32 rfl ?_
    refine V_iconst (v := 3) C dL_isSubmitted_33 rfl ?_
    refine V_irem C dL_isSubmitted_34 (by decide) ?_
    refine V_nm (pk_rem (d := 3) (by omega) (by decide) (by decide)) ?_
    refine V_istore C dL_isSubmitted_35 (by decide) ?_
    refine V_aload_n C dL_isSubmitted_37 rfl ?_
    refine V_iload C dL_isSubmitted_38 rfl ?_
    refine V_invV (c0 := 0) C dL_isSubmitted_40 hC.1 rfl (q_queued s (x % 3) hC hI hl3) mv_L_78 rfl (Nat.le_of_ble_eq_true rfl) ⟨Nat.le_of_ble_eq_true rfl, Nat.le_of_ble_eq_true rfl⟩ ⟨(Nat.le_of_ble_eq_true rfl), (Nat.le_of_ble_eq_true rfl)⟩ (fun _ _ _ h => VT_no h) (fun v ad2 F2 hp => ?_)
    obtain ⟨rfl, hC, hfk⟩ := hp
    rw [show ad1 0 = ad2 0 from hfk.a0.symm, show ad1 400 = ad2 400 from (hfk.ad (by decide)).symm, show ad1 403 = ad2 403 from (hfk.ad (by decide)).symm]
    have h400 := (hfk 400 (by decide)).2.trans h400
    have h403 := (hfk 403 (by decide)).2.trans h403
    have hK := hK.trk hfk
    refine V_istore C dL_isSubmitted_43 (by decide) ?_
    refine V_iload C dL_isSubmitted_45 rfl ?_
    refine V_ifne_t (tgt := 55) C dL_isSubmitted_47 (by decide) (by decide) ?_
    refine V_aload_n C dL_isSubmitted_55 rfl ?_
    refine V_iconst (v := 0) C dL_isSubmitted_56 rfl ?_
    refine V_iald C dL_isSubmitted_57 h403 (show _ = nI 0 from rfl) (by decide) (by decide) ?_
    refine V_nm g0 ?_
    by_cases hq : (zTxt s).length = 0
    · refine V_ifeq_t (tgt := 69) C dL_isSubmitted_58 (by decide) (by rw [hq]; rfl) ?_
      refine V_bipush (v := (-10)) C dL_isSubmitted_69 (by decide) ?_
      refine V_goto (tgt := 77) C dL_isSubmitted_71 (by decide) ?_
      refine V_istore C dL_isSubmitted_77 (by decide) ?_
      exact V_sb (fails 1 (-10) (e2 (Or.inl hq)) (xv_n (r := (1 + 1, 0, s)) (i := 1) rfl) (by decide) ad2 F2 hC h400 h403 hK) ⟨rfl, rfl, rfl, rfl, rfl, rfl, rfl, rfl, rfl, trivial⟩
    · refine V_ifeq_f (tgt := 69) C dL_isSubmitted_58 (by decide) (nI_ne0 (Nat.pos_of_ne_zero hq) (by omega)) ?_
      refine V_aload_n C dL_isSubmitted_61 rfl ?_
      refine V_iconst (v := 3) C dL_isSubmitted_62 rfl ?_
      refine V_iald C dL_isSubmitted_63 h403 (show _ = nI 3 from rfl) (by decide) (by decide) ?_
      refine V_nm g3 ?_
      refine V_bipush (v := 20) C dL_isSubmitted_64 (by decide) ?_
      by_cases hq2 : zMc s = 20
      · refine V_icmpne_f (tgt := 74) C dL_isSubmitted_66 (by decide) (congrArg nI hq2) ?_
        refine V_bipush (v := (-10)) C dL_isSubmitted_69 (by decide) ?_
        refine V_goto (tgt := 77) C dL_isSubmitted_71 (by decide) ?_
        refine V_istore C dL_isSubmitted_77 (by decide) ?_
        exact V_sb (fails 1 (-10) (e2 (Or.inr (by omega))) (xv_n (r := (1 + 1, 0, s)) (i := 1) rfl) (by decide) ad2 F2 hC h400 h403 hK) ⟨rfl, rfl, rfl, rfl, rfl, rfl, rfl, rfl, rfl, trivial⟩
      · refine V_icmpne_t (tgt := 74) C dL_isSubmitted_66 (by decide) (fun e => hq2 ((nI_eq (b := 20) (by omega) (by decide)).mp e)) ?_
        refine V_aload_n C dL_isSubmitted_74 rfl ?_
        refine V_iconst (v := 3) C dL_isSubmitted_75 rfl ?_
        refine V_iald C dL_isSubmitted_76 h403 (show _ = nI 3 from rfl) (by decide) (by decide) ?_
        refine V_nm g3 ?_
        refine V_istore C dL_isSubmitted_77 (by decide) ?_
        exact V_sb (goes hx9 hy0 hy1 hq (by omega) ad2 F2 hC h400 h403 hK) ⟨rfl, rfl, rfl, rfl, rfl, rfl, rfl, rfl, rfl, trivial⟩
  refine V_iload_n C dL_isSubmitted_0 rfl ?_
  refine V_bipush (v := 9) C dL_isSubmitted_1 (by decide) ?_
  by_cases hq : x < 9
  · refine V_icmpge_f (tgt := 23) C dL_isSubmitted_3 (by decide) (nI_ge (b := 9) hq (by decide)) ?_
    refine V_iload C dL_isSubmitted_6 rfl ?_
    by_cases hq2 : 0 < y
    · refine V_ifle_f (tgt := 23) C dL_isSubmitted_8 (by decide) (nI_nle hq2 (by omega)) ?_
      refine V_iload C dL_isSubmitted_11 rfl ?_
      refine V_sipush (v := 1001) C dL_isSubmitted_13 (by decide) ?_
      by_cases hq3 : y < 1001
      · refine V_icmpge_f (tgt := 23) C dL_isSubmitted_16 (by decide) (nI_ge (b := 1001) hq3 (by decide)) ?_
        refine V_iconst (v := 1) C dL_isSubmitted_19 rfl ?_
        refine V_goto (tgt := 24) C dL_isSubmitted_20 (by decide) ?_
        exact V_sb (good hq hq2 hq3) ⟨rfl, rfl, rfl, rfl, rfl, trivial⟩
      · refine V_icmpge_t (tgt := 23) C dL_isSubmitted_16 (by decide) (nI_le (a := 1001) (Nat.le_of_not_lt hq3) (by omega)) ?_
        exact V_sb (bad (by omega)) ⟨rfl, rfl, rfl, rfl, rfl, trivial⟩
    · refine V_ifle_t (tgt := 23) C dL_isSubmitted_8 (by decide) (by rw [show y = 0 by omega]; decide) ?_
      exact V_sb (bad (by omega)) ⟨rfl, rfl, rfl, rfl, rfl, trivial⟩
  · refine V_icmpge_t (tgt := 23) C dL_isSubmitted_3 (by decide) (nI_le (a := 9) (Nat.le_of_not_lt hq) (by omega)) ?_
    exact V_sb (bad (by omega)) ⟨rfl, rfl, rfl, rfl, rfl, trivial⟩
