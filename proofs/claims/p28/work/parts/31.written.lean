/-! ===== the law: isWritten ===== -/
abbrev rAct : Room := { frames := 11, cells := 30, slots := 1100, locals := 440 }
set_option maxHeartbeats 2000000 in
set_option maxRecDepth 100000 in
/-- isWritten -/
theorem l_isWritten {l : Launch} {D : Dx} {b0 : Nat} {ad : Nat → Nat} {F : Fn} (s : St) (x y rcn : Nat) (hC : CRep D ad F s) (hI : Inv s) (hG : LG D F (zTxt s) (zMc s) (zNow s) rcn) (hx : x < 2 ^ 20) (hy : y < 2 ^ 20) : Ct l D b0 yL_isWritten (wsA yL_isWritten cL_isWritten 6 (some .boolean)) rAct [.ref (ad 0), .ref (ad 403), .int (nI x), .int (nI y)] ad F (fun r ad1 F1 => r = some (.int 1) ∧ CRep D ad1 F1 (spWrite s (nI x) (nI y)).2.2 ∧ FrL [403] ad F ad1 F1 ∧ LG D F1 (zTxt (spWrite s (nI x) (nI y)).2.2) (zMc s) (zNow s) rcn) noX := by
  refine Ct.of (by decide +kernel) (by simp [Value.category]) (Nat.le_of_ble_eq_true rfl) (fun X eD eb el C Q => ?_)
  subst eD; subst eb; subst el
  obtain ⟨g, h403, g0, g1, g2, g3, g4, g5⟩ := hG
  have hL := hI.2.2.1
  have hse : septL (zTxt s) ≤ 2 * (zTxt s).length := septL_le
  have ex : (nI x).toNatClampNeg = x := nI_clamp (by omega)
  have ey : (nI y).toNatClampNeg = y := nI_clamp (by omega)
  have hK : FrL [403] ad F ad F := FrL.rf
  have bad : ¬ (x < 1000 ∧ 0 < y ∧ y < 201) → V X 0 0 26 [(0, .ref (ad 0)), (1, .ref (ad 403)), (2, .int (nI x)), (3, .int (nI y))] [] ad F := by
    intro hb
    have e : spWrite s (nI x) (nI y) = (1, 0, s) := by
      unfold spWrite
      rw [if_pos]
      rcases (show 1000 ≤ x ∨ y = 0 ∨ 201 ≤ y by omega) with h | h | h
      · exact Or.inr (Or.inl (nI_lt (a := 999) h (by omega)))
      · exact Or.inr (Or.inr (Or.inl (by rw [h]; decide)))
      · exact Or.inr (Or.inr (Or.inr (nI_lt (a := 200) h (by omega))))
    rw [e] at Q
    refine V_iconst (v := 0) C dL_isWritten_26 rfl ?_
    refine V_istore C dL_isWritten_27 (by decide) ?_
    refine V_iload C dL_isWritten_29 rfl ?_
    refine V_ifne_f (tgt := 39) C dL_isWritten_31 (by decide) rfl ?_
    refine V_bipush (v := (-20)) C dL_isWritten_34 (by decide) ?_
    refine V_goto (tgt := 60) C dL_isWritten_36 (by decide) ?_
    refine V_istore C dL_isWritten_60 (by decide) ?_
    refine V_iload C dL_isWritten_62 rfl ?_
    refine V_ifle_t (tgt := 109) C dL_isWritten_64 (by decide) (by decide) ?_
    refine V_aload_n C dL_isWritten_109 rfl ?_
    refine V_iconst (v := 0) C dL_isWritten_110 rfl ?_
    refine V_iload_n C dL_isWritten_111 rfl ?_
    refine V_iload_n C dL_isWritten_112 rfl ?_
    refine V_invH C dL_isWritten_113 (d_write s (nI x) (nI y) hC hI) mh_L_107 rfl (Nat.le_of_ble_eq_true rfl) ⟨Nat.le_of_ble_eq_true rfl, Nat.le_of_ble_eq_true rfl⟩ ⟨(Nat.le_of_ble_eq_true rfl), (Nat.le_of_ble_eq_true rfl)⟩ (fun _ _ _ h => VT_no h) (fun v ad1 F1 hp => ?_)
    rw [e] at hp
    obtain ⟨rfl, hC, hfk⟩ := hp
    rw [show ad 0 = ad1 0 from hfk.a0.symm]
    have h403 := (hfk 403 (by decide)).2.trans h403
    have hK := hK.trk hfk
    refine V_nm xv_b ?_
    refine V_iload C dL_isWritten_116 rfl ?_
    refine V_icmpne_f (tgt := 125) C dL_isWritten_118 (by decide) rfl ?_
    refine V_iconst (v := 1) C dL_isWritten_121 rfl ?_
    refine V_goto (tgt := 126) C dL_isWritten_122 (by decide) ?_
    exact V_ireturn C Q dL_isWritten_126 rfl (Nat.le_of_ble_eq_true rfl) (Nat.le_of_ble_eq_true rfl) ⟨rfl, hC, hK, g, h403, g0, g1, g2, g3, g4, g5⟩
  have good : x < 1000 → 0 < y → y < 201 → V X 0 0 27 [(0, .ref (ad 0)), (1, .ref (ad 403)), (2, .int (nI x)), (3, .int (nI y))] [.int 1] ad F := by
    intro hx1 hy0 hy1
    have hgd : ¬ (nI x < 0 ∨ 999 < nI x ∨ nI y < 1 ∨ 200 < nI y) := by
      rintro (h | h | h | h)
      · exact nI_pos (by omega) h
      · exact nI_nlt (a := 999) (by omega) (by decide) h
      · exact nI_nlt (b := 1) hy0 (by omega) h
      · exact nI_nlt (a := 200) (by omega) (by decide) h
    by_cases hf : (zTxt s).length + y ≤ 400
    · have e : spWrite s (nI x) (nI y) = (0, nI ((zTxt s).length + y), sTxt s (zTxt s ++ List.replicate y x)) := by
        unfold spWrite
        rw [if_neg hgd, ex, ey, if_neg (by omega)]
      rw [e] at Q
      have hse2 := septL_app (zTxt s) x y
      have hwi2 := wideL_app (zTxt s) x y hy0
      refine V_istore C dL_isWritten_27 (by decide) ?_
      refine V_iload C dL_isWritten_29 rfl ?_
      refine V_ifne_t (tgt := 39) C dL_isWritten_31 (by decide) (by decide) ?_
      refine V_aload_n C dL_isWritten_39 rfl ?_
      refine V_iconst (v := 0) C dL_isWritten_40 rfl ?_
      refine V_iald C dL_isWritten_41 h403 (show _ = nI 0 from rfl) (by decide) (by decide) ?_
      refine V_nm g0 ?_
      refine V_iload_n C dL_isWritten_42 rfl ?_
      refine V_iadd C dL_isWritten_43 ?_
      refine V_nm (nI_add _ _) ?_
      refine V_sipush (v := 400) C dL_isWritten_44 (by decide) ?_
      refine V_icmple_t (tgt := 55) C dL_isWritten_47 (by decide) (nI_le (b := 400) hf (by decide)) ?_
      refine V_aload_n C dL_isWritten_55 rfl ?_
      refine V_iconst (v := 0) C dL_isWritten_56 rfl ?_
      refine V_iald C dL_isWritten_57 h403 (show _ = nI 0 from rfl) (by decide) (by decide) ?_
      refine V_nm g0 ?_
      refine V_iload_n C dL_isWritten_58 rfl ?_
      refine V_iadd C dL_isWritten_59 ?_
      refine V_nm (nI_add _ _) ?_
      refine V_istore C dL_isWritten_60 (by decide) ?_
      refine V_iload C dL_isWritten_62 rfl ?_
      refine V_ifle_f (tgt := 109) C dL_isWritten_64 (by decide) (nI_nle (by omega) (by omega)) ?_
      refine V_aload_n C dL_isWritten_67 rfl ?_
      refine V_iconst (v := 0) C dL_isWritten_68 rfl ?_
      refine V_iload C dL_isWritten_69 rfl ?_
      refine G_iast C dL_isWritten_71 h403 (show _ = nI 0 from rfl) (by decide) (by decide) (fun F1 h403 hfr => ?_)
      have hC := hC.keptF hI (fun c hc => hfr c (by omega))
      have hK := hK.st hfr (by decide)
      have h109 : ∀ (F2 : Fn) (g9 : Nat → Int32), CRep (xD X) ad F2 s → FrL [403] ad F ad F2 → F2 403 = some (aI (xD X) 6 g9) → g9 0 = nI ((zTxt s).length + y) → g9 1 = b2i (wideL (zTxt s ++ List.replicate y x)) → g9 2 = nI (septL (zTxt s ++ List.replicate y x)) → g9 3 = nI (zMc s) → g9 4 = nI (zNow s) → g9 5 = nI rcn → V X 0 0 109 [(0, .ref (ad 0)), (1, .ref (ad 403)), (2, .int (nI x)), (3, .int (nI y)), (5, .int (nI ((zTxt s).length + y)))] [] ad F2 := by
        intro F2 g9 hC hK h403 k0 k1 k2 k3 k4 k5
        refine V_aload_n C dL_isWritten_109 rfl ?_
        refine V_iconst (v := 0) C dL_isWritten_110 rfl ?_
        refine V_iload_n C dL_isWritten_111 rfl ?_
        refine V_iload_n C dL_isWritten_112 rfl ?_
        refine V_invH C dL_isWritten_113 (d_write s (nI x) (nI y) hC hI) mh_L_107 rfl (Nat.le_of_ble_eq_true rfl) ⟨Nat.le_of_ble_eq_true rfl, Nat.le_of_ble_eq_true rfl⟩ ⟨(Nat.le_of_ble_eq_true rfl), (Nat.le_of_ble_eq_true rfl)⟩ (fun _ _ _ h => VT_no h) (fun v ad1 F1 hp => ?_)
        rw [e] at hp
        obtain ⟨rfl, hC, hfk⟩ := hp
        rw [show ad 0 = ad1 0 from hfk.a0.symm]
        have h403 := (hfk 403 (by decide)).2.trans h403
        have hK := hK.trk hfk
        refine V_nm xv_ok ?_
        refine V_iload C dL_isWritten_116 rfl ?_
        refine V_icmpne_f (tgt := 125) C dL_isWritten_118 (by decide) rfl ?_
        refine V_iconst (v := 1) C dL_isWritten_121 rfl ?_
        refine V_goto (tgt := 126) C dL_isWritten_122 (by decide) ?_
        exact V_ireturn C Q dL_isWritten_126 rfl (Nat.le_of_ble_eq_true rfl) (Nat.le_of_ble_eq_true rfl) ⟨rfl, hC, hK, g9, h403, by rw [k0, List.length_append, List.length_replicate], k1, k2, k3, k4, k5⟩
      have h88 : V X 0 0 88 [(0, .ref (ad 0)), (1, .ref (ad 403)), (2, .int (nI x)), (3, .int (nI y)), (5, .int (nI ((zTxt s).length + y)))] [.int (b2i (wideL (zTxt s ++ List.replicate y x))), .int 1, .ref (ad 403)] ad F1 := by
        refine G_iast C dL_isWritten_88 h403 (show _ = nI 1 from rfl) (by decide) (by decide) (fun F1 h403 hfr => ?_)
        have hC := hC.keptF hI (fun c hc => hfr c (by omega))
        have hK := hK.st hfr (by decide)
        refine V_aload_n C dL_isWritten_89 rfl ?_
        refine V_iconst (v := 2) C dL_isWritten_90 rfl ?_
        refine V_dup2 C dL_isWritten_91 rfl rfl ?_
        refine V_iald C dL_isWritten_92 h403 (show _ = nI 2 from rfl) (by decide) (by decide) ?_
        refine V_nm (show _ = nI (septL (zTxt s)) from g2) ?_
        refine V_iload_n C dL_isWritten_93 rfl ?_
        refine V_iload_n C dL_isWritten_94 rfl ?_
        refine V_sipush (v := 128) C dL_isWritten_95 (by decide) ?_
        by_cases hq : x < 128
        · refine V_icmpge_f (tgt := 105) C dL_isWritten_98 (by decide) (nI_ge (b := 128) hq (by decide)) ?_
          refine V_iconst (v := 1) C dL_isWritten_101 rfl ?_
          refine V_goto (tgt := 106) C dL_isWritten_102 (by decide) ?_
          refine V_imul C dL_isWritten_106 ?_
          refine V_nm (pk_mul y 1) ?_
          refine V_iadd C dL_isWritten_107 ?_
          refine V_nm (nI_add _ _) ?_
          refine G_iast C dL_isWritten_108 h403 (show _ = nI 2 from rfl) (by decide) (by decide) (fun F2 h403 hfr => ?_)
          have hC := hC.keptF hI (fun c hc => hfr c (by omega))
          have hK := hK.st hfr (by decide)
          exact V_sb (h109 F2 _ hC hK h403 rfl rfl (by show nI _ = _; rw [hse2]; congr 2; unfold w1; rw [if_pos hq]) g3 g4 g5) ⟨rfl, rfl, rfl, rfl, rfl, trivial⟩
        · refine V_icmpge_t (tgt := 105) C dL_isWritten_98 (by decide) (nI_le (a := 128) (Nat.le_of_not_lt hq) (by omega)) ?_
          refine V_iconst (v := 2) C dL_isWritten_105 rfl ?_
          refine V_imul C dL_isWritten_106 ?_
          refine V_nm (pk_mul y 2) ?_
          refine V_iadd C dL_isWritten_107 ?_
          refine V_nm (nI_add _ _) ?_
          refine G_iast C dL_isWritten_108 h403 (show _ = nI 2 from rfl) (by decide) (by decide) (fun F3 h403 hfr => ?_)
          have hC := hC.keptF hI (fun c hc => hfr c (by omega))
          have hK := hK.st hfr (by decide)
          exact V_sb (h109 F3 _ hC hK h403 rfl rfl (by show nI _ = _; rw [hse2]; congr 2; unfold w1; rw [if_neg hq]) g3 g4 g5) ⟨rfl, rfl, rfl, rfl, rfl, trivial⟩
      refine V_aload_n C dL_isWritten_72 rfl ?_
      refine V_iconst (v := 1) C dL_isWritten_73 rfl ?_
      refine V_iload_n C dL_isWritten_74 rfl ?_
      refine V_sipush (v := 159) C dL_isWritten_75 (by decide) ?_
      by_cases hq : x ≤ 159
      · refine V_icmple_t (tgt := 85) C dL_isWritten_78 (by decide) (nI_le (b := 159) hq (by decide)) ?_
        refine V_aload_n C dL_isWritten_85 rfl ?_
        refine V_iconst (v := 1) C dL_isWritten_86 rfl ?_
        refine V_iald C dL_isWritten_87 h403 (show _ = nI 1 from rfl) (by decide) (by decide) ?_
        refine V_nm (show _ = b2i (wideL (zTxt s ++ List.replicate y x)) from g1.trans (by rw [hwi2]; simp [show ¬ 160 ≤ x by omega])) ?_
        exact V_sb h88 ⟨rfl, rfl, rfl, rfl, rfl, trivial⟩
      · refine V_icmple_f (tgt := 85) C dL_isWritten_78 (by decide) (nI_ge (b := x) (a := 159) (by omega) (by omega)) ?_
        refine V_iconst (v := 1) C dL_isWritten_81 rfl ?_
        refine V_goto (tgt := 88) C dL_isWritten_82 (by decide) ?_
        refine V_nm (show (1 : Int32) = b2i (wideL (zTxt s ++ List.replicate y x)) by rw [hwi2]; simp [show 160 ≤ x by omega, b2i]) ?_
        exact V_sb h88 ⟨rfl, rfl, rfl, rfl, rfl, trivial⟩
    · have e : spWrite s (nI x) (nI y) = (2, 0, s) := by
        unfold spWrite
        rw [if_neg hgd, ey, if_pos (by omega)]
      rw [e] at Q
      refine V_istore C dL_isWritten_27 (by decide) ?_
      refine V_iload C dL_isWritten_29 rfl ?_
      refine V_ifne_t (tgt := 39) C dL_isWritten_31 (by decide) (by decide) ?_
      refine V_aload_n C dL_isWritten_39 rfl ?_
      refine V_iconst (v := 0) C dL_isWritten_40 rfl ?_
      refine V_iald C dL_isWritten_41 h403 (show _ = nI 0 from rfl) (by decide) (by decide) ?_
      refine V_nm g0 ?_
      refine V_iload_n C dL_isWritten_42 rfl ?_
      refine V_iadd C dL_isWritten_43 ?_
      refine V_nm (nI_add _ _) ?_
      refine V_sipush (v := 400) C dL_isWritten_44 (by decide) ?_
      refine V_icmple_f (tgt := 55) C dL_isWritten_47 (by decide) (nI_ge (a := 400) (by omega) (by omega)) ?_
      refine V_bipush (v := (-10)) C dL_isWritten_50 (by decide) ?_
      refine V_goto (tgt := 60) C dL_isWritten_52 (by decide) ?_
      refine V_istore C dL_isWritten_60 (by decide) ?_
      refine V_iload C dL_isWritten_62 rfl ?_
      refine V_ifle_t (tgt := 109) C dL_isWritten_64 (by decide) (by decide) ?_
      refine V_aload_n C dL_isWritten_109 rfl ?_
      refine V_iconst (v := 0) C dL_isWritten_110 rfl ?_
      refine V_iload_n C dL_isWritten_111 rfl ?_
      refine V_iload_n C dL_isWritten_112 rfl ?_
      refine V_invH C dL_isWritten_113 (d_write s (nI x) (nI y) hC hI) mh_L_107 rfl (Nat.le_of_ble_eq_true rfl) ⟨Nat.le_of_ble_eq_true rfl, Nat.le_of_ble_eq_true rfl⟩ ⟨(Nat.le_of_ble_eq_true rfl), (Nat.le_of_ble_eq_true rfl)⟩ (fun _ _ _ h => VT_no h) (fun v ad1 F1 hp => ?_)
      rw [e] at hp
      obtain ⟨rfl, hC, hfk⟩ := hp
      rw [show ad 0 = ad1 0 from hfk.a0.symm]
      have h403 := (hfk 403 (by decide)).2.trans h403
      have hK := hK.trk hfk
      refine V_nm (show _ = (-10 : Int32) from xv_n (r := (2, 0, s)) (i := 1) rfl) ?_
      refine V_iload C dL_isWritten_116 rfl ?_
      refine V_icmpne_f (tgt := 125) C dL_isWritten_118 (by decide) rfl ?_
      refine V_iconst (v := 1) C dL_isWritten_121 rfl ?_
      refine V_goto (tgt := 126) C dL_isWritten_122 (by decide) ?_
      exact V_ireturn C Q dL_isWritten_126 rfl (Nat.le_of_ble_eq_true rfl) (Nat.le_of_ble_eq_true rfl) ⟨rfl, hC, hK, g, h403, g0, g1, g2, g3, g4, g5⟩
  refine V_iload_n C dL_isWritten_0 rfl ?_
  refine V_iflt_f (tgt := 26) C dL_isWritten_1 (by decide) (nI_pos (by omega)) ?_
  refine V_iload_n C dL_isWritten_4 rfl ?_
  refine V_sipush (v := 1000) C dL_isWritten_5 (by decide) ?_
  by_cases hq : x < 1000
  · refine V_icmpge_f (tgt := 26) C dL_isWritten_8 (by decide) (nI_ge (b := 1000) hq (by decide)) ?_
    refine V_iload_n C dL_isWritten_11 rfl ?_
    by_cases hq2 : 0 < y
    · refine V_ifle_f (tgt := 26) C dL_isWritten_12 (by decide) (nI_nle hq2 (by omega)) ?_
      refine V_iload_n C dL_isWritten_15 rfl ?_
      refine V_sipush (v := 201) C dL_isWritten_16 (by decide) ?_
      by_cases hq3 : y < 201
      · refine V_icmpge_f (tgt := 26) C dL_isWritten_19 (by decide) (nI_ge (b := 201) hq3 (by decide)) ?_
        refine V_iconst (v := 1) C dL_isWritten_22 rfl ?_
        refine V_goto (tgt := 27) C dL_isWritten_23 (by decide) ?_
        exact V_sb (good hq hq2 hq3) ⟨rfl, rfl, rfl, rfl, trivial⟩
      · refine V_icmpge_t (tgt := 26) C dL_isWritten_19 (by decide) (nI_le (a := 201) (Nat.le_of_not_lt hq3) (by omega)) ?_
        exact V_sb (bad (by omega)) ⟨rfl, rfl, rfl, rfl, trivial⟩
    · refine V_ifle_t (tgt := 26) C dL_isWritten_12 (by decide) (by rw [show y = 0 by omega]; decide) ?_
      exact V_sb (bad (by omega)) ⟨rfl, rfl, rfl, rfl, trivial⟩
  · refine V_icmpge_t (tgt := 26) C dL_isWritten_8 (by decide) (nI_le (a := 1000) (Nat.le_of_not_lt hq) (by omega)) ?_
    exact V_sb (bad (by omega)) ⟨rfl, rfl, rfl, rfl, trivial⟩
