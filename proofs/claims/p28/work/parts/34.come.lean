/-! ===== the law: isCome ===== -/
/-- the last service of the first k with a keyword -/
def lastW (kw : Nat → Int32) (x : Int32) : Nat → Nat
  | 0 => 0
  | k + 1 => if kw (k + 1) = x then k + 1 else lastW kw x k
theorem last_sv {kw : Nat → Int32} {x : Int32} (h : X5 kw) (hx : x ≠ -1) : lastW kw x 4 = svW kw x := by
  have hh : ∀ j k, 0 < j → j < 5 → 0 < k → k < 5 → kw j = x → kw k = x → j = k := fun j k a b c d e f => (h j k a b c d (e.trans f.symm)).resolve_right (fun g => hx (e.symm.trans g))
  unfold svW
  show (if kw 4 = x then 4 else if kw 3 = x then 3 else if kw 2 = x then 2 else if kw 1 = x then 1 else 0) = _
  by_cases h1 : kw 1 = x
  · have n2 : ¬ kw 2 = x := fun e => absurd (hh 1 2 (by decide) (by decide) (by decide) (by decide) h1 e) (by decide)
    have n3 : ¬ kw 3 = x := fun e => absurd (hh 1 3 (by decide) (by decide) (by decide) (by decide) h1 e) (by decide)
    have n4 : ¬ kw 4 = x := fun e => absurd (hh 1 4 (by decide) (by decide) (by decide) (by decide) h1 e) (by decide)
    rw [if_neg n4, if_neg n3, if_neg n2]
    simp only [if_pos h1]
  · by_cases h2 : kw 2 = x
    · have n3 : ¬ kw 3 = x := fun e => absurd (hh 2 3 (by decide) (by decide) (by decide) (by decide) h2 e) (by decide)
      have n4 : ¬ kw 4 = x := fun e => absurd (hh 2 4 (by decide) (by decide) (by decide) (by decide) h2 e) (by decide)
      rw [if_neg n4, if_neg n3]
      simp only [if_neg h1, if_pos h2]
    · by_cases h3 : kw 3 = x
      · have n4 : ¬ kw 4 = x := fun e => absurd (hh 3 4 (by decide) (by decide) (by decide) (by decide) h3 e) (by decide)
        rw [if_neg n4]
        simp only [if_neg h1, if_neg h2, if_pos h3]
      · simp only [if_neg h1, if_neg h2, if_neg h3]
theorem nI_nm1 {y : Nat} (h : y < 2 ^ 31) : nI y ≠ -1 := fun e => by
  have := nI_pos h
  rw [e] at this
  exact this (by decide)
set_option maxHeartbeats 2000000 in
set_option maxRecDepth 100000 in
/-- isCome -/
theorem l_isCome {l : Launch} {D : Dx} {b0 : Nat} {ad : Nat → Nat} {F : Fn} (s : St) (x y rcn : Nat) (hC : CRep D ad F s) (hQ : Kq s) (hW : LW D F (zKw s) (zSe s) (zLa s)) (hG : LG D F (zTxt s) (zMc s) (zNow s) rcn) (hx : x < 10) (hy : y < 2 ^ 20) : Ct l D b0 yL_isCome (wsA yL_isCome cL_isCome 9 (some .boolean)) rAct [.ref (ad 0), .ref (ad 402), .ref (ad 403), .int (nI x), .int (nI y)] ad F (fun r ad1 F1 => r = some (.int 1) ∧ CRep D ad1 F1 (spCome s (nI x) (nI y)).2.2 ∧ FrL [402] ad F ad1 F1 ∧ LW D F1 (zKw s) (zSe (spCome s (nI x) (nI y)).2.2) (zLa (spCome s (nI x) (nI y)).2.2)) noX := by
  refine Ct.of (by decide +kernel) (by simp [Value.category]) (Nat.le_of_ble_eq_true rfl) (fun X eD eb el C Q => ?_)
  subst eD; subst eb; subst el
  have hI := hQ.1.1
  obtain ⟨g, h403, g0, g1, g2, g3, g4, g5⟩ := hG
  obtain ⟨w, h402, hw, hk⟩ := hW
  have ex : (nI x).toNatClampNeg = x := nI_clamp (by omega)
  have hK : FrL [402] ad F ad F := FrL.rf
  have bad : ¬ (x < 9 ∧ y < 1000) → V X 0 0 18 [(0, .ref (ad 0)), (1, .ref (ad 402)), (2, .ref (ad 403)), (3, .int (nI x)), (4, .int (nI y))] [] ad F := by
    intro hb
    have e : spCome s (nI x) (nI y) = (1, 0, s) := by
      unfold spCome
      rw [if_pos]
      rcases (show 9 ≤ x ∨ 1000 ≤ y by omega) with h | h
      · exact Or.inr (Or.inl (nI_le (a := 9) h (by omega)))
      · exact Or.inr (Or.inr (Or.inr (nI_lt (a := 999) h (by omega))))
    rw [e] at Q
    refine V_iconst (v := 0) C dL_isCome_18 rfl ?_
    refine V_istore C dL_isCome_19 (by decide) ?_
    refine V_aload_n C dL_isCome_21 rfl ?_
    refine V_bipush (v := 7) C dL_isCome_22 (by decide) ?_
    refine V_iload_n C dL_isCome_24 rfl ?_
    refine V_iload C dL_isCome_25 rfl ?_
    refine V_invH C dL_isCome_27 (d_come s (nI x) (nI y) hC hI) mh_L_107 rfl (Nat.le_of_ble_eq_true rfl) ⟨Nat.le_of_ble_eq_true rfl, Nat.le_of_ble_eq_true rfl⟩ ⟨(Nat.le_of_ble_eq_true rfl), (Nat.le_of_ble_eq_true rfl)⟩ (fun _ _ _ h => VT_no h) (fun v ad1 F1 hp => ?_)
    rw [e] at hp
    obtain ⟨rfl, hC, hfk⟩ := hp
    rw [show ad 0 = ad1 0 from hfk.a0.symm, show ad 402 = ad1 402 from (hfk.ad (by decide)).symm, show ad 403 = ad1 403 from (hfk.ad (by decide)).symm]
    have h402 := (hfk 402 (by decide)).2.trans h402
    have h403 := (hfk 403 (by decide)).2.trans h403
    have hK := hK.trk hfk
    refine V_nm xv_b ?_
    refine V_istore C dL_isCome_30 (by decide) ?_
    refine V_iload C dL_isCome_32 rfl ?_
    refine V_ifne_f (tgt := 50) C dL_isCome_34 (by decide) rfl ?_
    refine V_iload C dL_isCome_37 rfl ?_
    refine V_bipush (v := (-20)) C dL_isCome_39 (by decide) ?_
    refine V_icmpne_f (tgt := 48) C dL_isCome_41 (by decide) rfl ?_
    refine V_iconst (v := 1) C dL_isCome_44 rfl ?_
    refine V_goto (tgt := 49) C dL_isCome_45 (by decide) ?_
    exact V_ireturn C Q dL_isCome_49 rfl (Nat.le_of_ble_eq_true rfl) (Nat.le_of_ble_eq_true rfl) ⟨rfl, hC, hK, w, h402, hw, hk⟩
  have good : x < 9 → y < 1000 → V X 0 0 19 [(0, .ref (ad 0)), (1, .ref (ad 402)), (2, .ref (ad 403)), (3, .int (nI x)), (4, .int (nI y))] [.int 1] ad F := by
    intro hx9 hy3
    obtain ⟨v, hv⟩ : ∃ v, v = seW (zKw s) (zSe s) (zLa s) x (nI y) (nI (zNow s)) := ⟨_, rfl⟩
    have e : spCome s (nI x) (nI y) = (0, v, sSL s (upd (zSe s) x v) (upd (zLa s) x (nI (zNow s)))) := by
      unfold spCome
      rw [if_neg, ex, ← hv]
      rintro (h | h | h | h)
      · exact nI_pos (by omega) h
      · exact nI_ge (b := 9) hx9 (by decide) h
      · exact nI_pos (by omega) h
      · exact nI_nlt (a := 999) (by omega) (by decide) h
    have hQ2 := (kq_come (a := nI x) (b := nI y) hQ).1
    rw [e] at Q hQ2
    have hI2 := hQ2.1.1
    have hls := last_sv hQ.2.2.2.2.2 (nI_nm1 (y := y) (by omega))
    have hsl := svW_lt (zKw s) (nI y)
    obtain ⟨n, hn5, hn⟩ := hI.2.2.2.2.2.2.2.2.1 x hx9
    refine V_istore C dL_isCome_19 (by decide) ?_
    refine V_aload_n C dL_isCome_21 rfl ?_
    refine V_bipush (v := 7) C dL_isCome_22 (by decide) ?_
    refine V_iload_n C dL_isCome_24 rfl ?_
    refine V_iload C dL_isCome_25 rfl ?_
    refine V_invH C dL_isCome_27 (d_come s (nI x) (nI y) hC hI) mh_L_107 rfl (Nat.le_of_ble_eq_true rfl) ⟨Nat.le_of_ble_eq_true rfl, Nat.le_of_ble_eq_true rfl⟩ ⟨(Nat.le_of_ble_eq_true rfl), (Nat.le_of_ble_eq_true rfl)⟩ (fun _ _ _ h => VT_no h) (fun v ad1 F1 hp => ?_)
    rw [e] at hp
    obtain ⟨rfl, hC, hfk⟩ := hp
    rw [show ad 0 = ad1 0 from hfk.a0.symm, show ad 402 = ad1 402 from (hfk.ad (by decide)).symm, show ad 403 = ad1 403 from (hfk.ad (by decide)).symm]
    have h402 := (hfk 402 (by decide)).2.trans h402
    have h403 := (hfk 403 (by decide)).2.trans h403
    have hK := hK.trk hfk
    refine V_nm xv_ok ?_
    refine V_istore C dL_isCome_30 (by decide) ?_
    refine V_iload C dL_isCome_32 rfl ?_
    refine V_ifne_t (tgt := 50) C dL_isCome_34 (by decide) (by decide) ?_
    refine V_iconst (v := 0) C dL_isCome_50 rfl ?_
    refine V_istore C dL_isCome_51 (by decide) ?_
    refine V_iconst (v := 1) C dL_isCome_53 rfl ?_
    refine V_istore C dL_isCome_54 (by decide) ?_
    have h127 : V X (0 + 13) (0 + 900) 127 [(0, .ref (ad1 0)), (1, .ref (ad1 402)), (2, .ref (ad1 403)), (3, .int (nI x)), (4, .int (nI y)), (6, .int v)] [.int v] ad1 F1 := by
      refine V_istore C dL_isCome_127 (by decide) ?_
      refine V_aload_n C dL_isCome_129 rfl ?_
      refine V_iload_n C dL_isCome_130 rfl ?_
      refine V_iload C dL_isCome_131 rfl ?_
      refine G_iast C dL_isCome_133 h402 rfl (show x < 23 by omega) (by decide) (fun F8 h402 hfr => ?_)
      have h403 := (hfr 403 (by decide)).trans h403
      have hC := hC.keptF hI2 (fun c hc => hfr c (by omega))
      have hK := hK.st hfr (by decide)
      refine V_aload_n C dL_isCome_134 rfl ?_
      refine V_bipush (v := 9) C dL_isCome_135 (by decide) ?_
      refine V_iload_n C dL_isCome_137 rfl ?_
      refine V_iadd C dL_isCome_138 ?_
      refine V_nm (nI_add 9 x) ?_
      refine V_aload_n C dL_isCome_139 rfl ?_
      refine V_iconst (v := 4) C dL_isCome_140 rfl ?_
      refine V_iald C dL_isCome_141 h403 (show _ = nI 4 from rfl) (by decide) (by decide) ?_
      refine V_nm g4 ?_
      refine G_iast C dL_isCome_142 h402 rfl (show 9 + x < 23 by omega) (by decide) (fun F9 h402 hfr => ?_)
      have hC := hC.keptF hI2 (fun c hc => hfr c (by omega))
      have hK := hK.st hfr (by decide)
      refine V_iload C dL_isCome_143 rfl ?_
      refine V_iload C dL_isCome_145 rfl ?_
      refine V_icmpne_f (tgt := 154) C dL_isCome_147 (by decide) rfl ?_
      refine V_iconst (v := 1) C dL_isCome_150 rfl ?_
      refine V_goto (tgt := 155) C dL_isCome_151 (by decide) ?_
      refine V_ireturn C Q dL_isCome_155 rfl (Nat.le_of_ble_eq_true rfl) (Nat.le_of_ble_eq_true rfl) ⟨rfl, hC, hK, _, h402, fun p hp => ?_, fun k h0 h5 => ?_⟩
      · show _ = upd (zSe s) x v p ∧ _ = upd (zLa s) x (nI (zNow s)) p
        by_cases ep : p = x
        · subst ep
          rw [pk_us, pk_us, pk_us, pk_un (by omega), pk_us]
          exact ⟨rfl, rfl⟩
        · rw [pk_un (f := zSe s) ep, pk_un (f := zLa s) ep, pk_un (by omega), pk_un (by omega), pk_un (by omega), pk_un (by omega)]
          exact hw p hp
      · rw [pk_un (by omega), pk_un (by omega)]
        exact hk k h0 h5
    have h89 : V X (0 + 13) (0 + 900) 89 [(0, .ref (ad1 0)), (1, .ref (ad1 402)), (2, .ref (ad1 403)), (3, .int (nI x)), (4, .int (nI y)), (6, .int v), (7, .int (nI (svW (zKw s) (nI y))))] [] ad1 F1 := by
      unfold seW at hv
      refine V_iload C dL_isCome_89 rfl ?_
      by_cases hq : svW (zKw s) (nI y) = 0
      · rw [if_pos hq] at hv
        refine V_ifle_t (tgt := 99) C dL_isCome_91 (by decide) (by rw [hq]; decide) ?_
        refine V_aload_n C dL_isCome_99 rfl ?_
        refine V_iload_n C dL_isCome_100 rfl ?_
        refine V_iald C dL_isCome_101 h402 rfl (by omega) (by decide) ?_
        refine V_nm ((hw x hx9).1.trans hn) ?_
        by_cases hn0 : n = 0
        · refine V_ifle_t (tgt := 126) C dL_isCome_102 (by decide) (by rw [hn0]; decide) ?_
          refine V_iconst (v := 0) C dL_isCome_126 rfl ?_
          refine V_nm (show (0 : Int32) = v by rw [hv, hn, hn0]; split <;> rfl) ?_
          exact V_sb h127 ⟨rfl, rfl, rfl, rfl, rfl, rfl, trivial⟩
        · refine V_ifle_f (tgt := 126) C dL_isCome_102 (by decide) (nI_nle (Nat.pos_of_ne_zero hn0) (by omega)) ?_
          refine V_aload_n C dL_isCome_105 rfl ?_
          refine V_iconst (v := 4) C dL_isCome_106 rfl ?_
          refine V_iald C dL_isCome_107 h403 (show _ = nI 4 from rfl) (by decide) (by decide) ?_
          refine V_nm g4 ?_
          refine V_aload_n C dL_isCome_108 rfl ?_
          refine V_bipush (v := 9) C dL_isCome_109 (by decide) ?_
          refine V_iload_n C dL_isCome_111 rfl ?_
          refine V_iadd C dL_isCome_112 ?_
          refine V_nm (nI_add 9 x) ?_
          refine V_iald C dL_isCome_113 h402 rfl (by omega) (by decide) ?_
          refine V_nm (hw x hx9).2 ?_
          refine V_isub C dL_isCome_114 ?_
          refine V_bipush (v := 20) C dL_isCome_115 (by decide) ?_
          by_cases ho : 20 ≤ nI (zNow s) - zLa s x
          · rw [if_pos ho] at hv
            refine V_icmpge_t (tgt := 126) C dL_isCome_117 (by decide) ho ?_
            refine V_iconst (v := 0) C dL_isCome_126 rfl ?_
            refine V_nm hv.symm ?_
            exact V_sb h127 ⟨rfl, rfl, rfl, rfl, rfl, rfl, trivial⟩
          · rw [if_neg ho] at hv
            refine V_icmpge_f (tgt := 126) C dL_isCome_117 (by decide) ho ?_
            refine V_aload_n C dL_isCome_120 rfl ?_
            refine V_iload_n C dL_isCome_121 rfl ?_
            refine V_iald C dL_isCome_122 h402 rfl (by omega) (by decide) ?_
            refine V_nm ((hw x hx9).1.trans hn) ?_
            refine V_goto (tgt := 127) C dL_isCome_123 (by decide) ?_
            refine V_nm (hn.symm.trans hv.symm) ?_
            exact V_sb h127 ⟨rfl, rfl, rfl, rfl, rfl, rfl, trivial⟩
      · rw [if_neg hq] at hv
        refine V_ifle_f (tgt := 99) C dL_isCome_91 (by decide) (nI_nle (Nat.pos_of_ne_zero hq) (by omega)) ?_
        refine V_iload C dL_isCome_94 rfl ?_
        refine V_goto (tgt := 127) C dL_isCome_96 (by decide) ?_
        refine V_nm hv.symm ?_
        exact V_sb h127 ⟨rfl, rfl, rfl, rfl, rfl, rfl, trivial⟩
    have loop : ∀ d j : Nat, j + d = 4 → V X (0 + 13) (0 + 900) 56 [(0, .ref (ad1 0)), (1, .ref (ad1 402)), (2, .ref (ad1 403)), (3, .int (nI x)), (4, .int (nI y)), (6, .int v), (7, .int (nI (lastW (zKw s) (nI y) j))), (8, .int (nI (j + 1)))] [] ad1 F1 := by
      intro d
      induction d with
      | zero =>
        intro j hj
        obtain rfl : j = 4 := by omega
        rw [hls]
        refine V_iload C dL_isCome_56 rfl ?_
        refine V_iconst (v := 5) C dL_isCome_58 rfl ?_
        refine V_icmpge_t (tgt := 89) C dL_isCome_59 (by decide) (Int32.le_refl _) ?_
        exact V_sb h89 ⟨rfl, rfl, rfl, rfl, rfl, rfl, rfl, trivial⟩
      | succ d ih =>
        intro j hj
        refine V_iload C dL_isCome_56 rfl ?_
        refine V_iconst (v := 5) C dL_isCome_58 rfl ?_
        refine V_icmpge_f (tgt := 89) C dL_isCome_59 (by decide) (nI_ge (b := 5) (by omega) (by decide)) ?_
        refine V_aload_n C dL_isCome_62 rfl ?_
        refine V_bipush (v := 18) C dL_isCome_63 (by decide) ?_
        refine V_iload C dL_isCome_65 rfl ?_
        refine V_iadd C dL_isCome_67 ?_
        refine V_nm (nI_add 18 (j + 1)) ?_
        refine V_iald C dL_isCome_68 h402 rfl (by omega) (by decide) ?_
        refine V_nm (hk (j + 1) (by omega) (by omega)) ?_
        refine V_iload C dL_isCome_69 rfl ?_
        by_cases hq : zKw s (j + 1) = nI y
        · refine V_icmpne_f (tgt := 79) C dL_isCome_71 (by decide) hq ?_
          refine V_iload C dL_isCome_74 rfl ?_
          refine V_goto (tgt := 81) C dL_isCome_76 (by decide) ?_
          refine V_nm (congrArg nI (show j + 1 = lastW (zKw s) (nI y) (j + 1) from (if_pos hq).symm)) ?_
          refine V_istore C dL_isCome_81 (by decide) ?_
          refine V_iinc C dL_isCome_83 rfl (nI_1 (j + 1)) (by decide) ?_
          refine V_goto (tgt := 56) C dL_isCome_86 (by decide) ?_
          exact V_sb (ih (j + 1) (by omega)) ⟨rfl, rfl, rfl, rfl, rfl, rfl, rfl, rfl, trivial⟩
        · refine V_icmpne_t (tgt := 79) C dL_isCome_71 (by decide) hq ?_
          refine V_iload C dL_isCome_79 rfl ?_
          refine V_nm (congrArg nI (show lastW (zKw s) (nI y) j = lastW (zKw s) (nI y) (j + 1) from (if_neg hq).symm)) ?_
          refine V_istore C dL_isCome_81 (by decide) ?_
          refine V_iinc C dL_isCome_83 rfl (nI_1 (j + 1)) (by decide) ?_
          refine V_goto (tgt := 56) C dL_isCome_86 (by decide) ?_
          exact V_sb (ih (j + 1) (by omega)) ⟨rfl, rfl, rfl, rfl, rfl, rfl, rfl, rfl, trivial⟩
    exact V_sb (loop 4 0 rfl) ⟨rfl, rfl, rfl, rfl, rfl, rfl, rfl, rfl, trivial⟩
  refine V_iload_n C dL_isCome_0 rfl ?_
  refine V_bipush (v := 9) C dL_isCome_1 (by decide) ?_
  by_cases hq : x < 9
  · refine V_icmpge_f (tgt := 18) C dL_isCome_3 (by decide) (nI_ge (b := 9) hq (by decide)) ?_
    refine V_iload C dL_isCome_6 rfl ?_
    refine V_sipush (v := 1000) C dL_isCome_8 (by decide) ?_
    by_cases hq3 : y < 1000
    · refine V_icmpge_f (tgt := 18) C dL_isCome_11 (by decide) (nI_ge (b := 1000) hq3 (by decide)) ?_
      refine V_iconst (v := 1) C dL_isCome_14 rfl ?_
      refine V_goto (tgt := 19) C dL_isCome_15 (by decide) ?_
      exact V_sb (good hq hq3) ⟨rfl, rfl, rfl, rfl, rfl, trivial⟩
    · refine V_icmpge_t (tgt := 18) C dL_isCome_11 (by decide) (nI_le (a := 1000) (Nat.le_of_not_lt hq3) (by omega)) ?_
      exact V_sb (bad (by omega)) ⟨rfl, rfl, rfl, rfl, rfl, trivial⟩
  · refine V_icmpge_t (tgt := 18) C dL_isCome_3 (by decide) (nI_le (a := 9) (Nat.le_of_not_lt hq) (by omega)) ?_
    exact V_sb (bad (by omega)) ⟨rfl, rfl, rfl, rfl, rfl, trivial⟩
