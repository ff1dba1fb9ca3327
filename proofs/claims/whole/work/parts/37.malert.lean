/-! ===== the model: alert ===== -/
def alF (u : St) (L : List Nat) (r t : Nat) (c : Nat) : Nat := if c ∈ L.take t ∧ wkS u r c = true then 0 else zPw u c
theorem alF_0 (u : St) (L : List Nat) (r : Nat) : alF u L r 0 = zPw u := by
  funext c
  unfold alF
  rw [List.take_zero, if_neg (fun h => List.not_mem_nil h.1)]
theorem alF_end (u : St) (L : List Nat) (r : Nat) : alF u L r L.length = fun c => if c ∈ L ∧ wkS u r c = true then 0 else zPw u c := by
  funext c
  unfold alF
  rw [List.take_length]
theorem take_getD {L : List Nat} {t : Nat} (h : t < L.length) : L.take (t + 1) = L.take t ++ [L.getD t 0] := by
  rw [List.take_succ, List.getD_eq_getElem?_getD, List.getElem?_eq_getElem h]
  rfl
theorem alF_suc {u : St} {L : List Nat} {r t c : Nat} (h : t < L.length) (ec : c = L.getD t 0) : alF u L r (t + 1) = va_up (alF u L r t) c (if wkS u r c = true then 0 else zPw u c) := by
  funext x
  by_cases e : x = c
  · subst e
    rw [up_s]
    unfold alF
    rw [take_getD h, ← ec]
    by_cases hw : wkS u r x = true
    · rw [if_pos ⟨List.mem_append_right _ (List.mem_singleton.mpr rfl), hw⟩, if_pos hw]
    · rw [if_neg (fun g => hw g.2), if_neg hw]
  · rw [up_n e]
    unfold alF
    rw [take_getD h, ← ec]
    simp only [List.mem_append, List.mem_singleton, e, or_false]
theorem nd_take {L : List Nat} (h : L.Nodup) {t : Nat} (ht : t < L.length) : L.getD t 0 ∉ L.take t := fun hm => by
  obtain ⟨j, hj, e⟩ := List.mem_iff_getElem.mp hm
  rw [List.length_take] at hj
  rw [List.getElem_take] at e
  have h1 : L[t]? = some (L.getD t 0) := by rw [List.getD_eq_getElem?_getD, List.getElem?_eq_getElem ht]; rfl
  have h2 : L[j]? = some (L.getD t 0) := by rw [List.getElem?_eq_getElem (by omega), e]
  have := nodup_idx h h1 h2
  omega
set_option maxHeartbeats 400000 in
set_option maxRecDepth 100000 in
/-- alert -/
theorem m_alert {l : Launch} {D : Dx} {b0 : Nat} {ad : Nat → Nat} {F : Fn} (u : St) (th : Int32) (a : Int32) (hM0 : MRep D ad F u th) (hI : Inv u) : Ct l D b0 yX7_alert (wsA yX7_alert cX7_alert 7 (some .int)) (rK 1) [.ref (ad 300), .int a] ad F (PoM D ad F (spAlert u a)) noX := by
  refine Ct.of (by decide +kernel) (by simp [Value.category]) (Nat.le_of_ble_eq_true rfl) (fun X eD eb el C Q => ?_)
  subst eD; subst eb; subst el
  have hO := hM0.1
  have hM := hO
  unfold mObj at hM
  refine V_aload_n C dX7_alert_0 rfl ?_
  refine V_iload_n C dX7_alert_1 rfl ?_
  refine V_iconst (v := 0) C dX7_alert_2 rfl ?_
  refine V_bipush (v := 8) C dX7_alert_3 (by decide) ?_
  refine V_invS C dX7_alert_5 (m_isIn a 0 8) ms_7_94 rfl (Nat.le_of_ble_eq_true rfl) ⟨Nat.le_of_ble_eq_true rfl, Nat.le_of_ble_eq_true rfl⟩ ⟨Nat.le_of_ble_eq_true rfl, Nat.le_of_ble_eq_true rfl⟩ (fun _ _ _ h => VT_no h) (fun v ad1 F1 hp => ?_)
  obtain ⟨rfl, rfl, rfl⟩ := hp
  rw [isB_n 9 (by decide) (by decide)]
  refine V_ifeq (tgt := 15) C dX7_alert_8 (by decide) (fun h1 => ?_) (fun h1 => ?_)
  · rw [show spAlert u a = (1, 0, u) from if_pos (ite01 h1)] at Q
    refine V_iconst (v := 1) C dX7_alert_15 rfl ?_
    refine V_invV C dX7_alert_16 hM rfl (m_fails _ _ _ _ _ _ hO) mv_7_101 rfl (Nat.le_of_ble_eq_true rfl) ⟨Nat.le_of_ble_eq_true rfl, Nat.le_of_ble_eq_true rfl⟩ ⟨Nat.le_of_ble_eq_true rfl, Nat.le_of_ble_eq_true rfl⟩ (fun _ _ _ h => VT_no h) (fun v ad1 F1 hp => ?_)
    obtain ⟨rfl, rfl, hO1, hfr⟩ := hp
    refine V_ifeq_f (tgt := 24) C dX7_alert_19 (by decide) (by decide) ?_
    refine V_iconst (v := 0) C dX7_alert_22 rfl ?_
    exact V_ireturn C Q dX7_alert_23 rfl (Nat.le_of_ble_eq_true rfl) (Nat.le_of_ble_eq_true rfl) ⟨rfl, rfl, hM0.th hO1 hfr, fun c hc => ⟨rfl, hfr c (by omega)⟩⟩
  · have hb := ite01n h1
    obtain ⟨r, hr, rfl⟩ := badI_not (a := a) (n := 9) (by omega) hb
    have ej : (nI r).toNatClampNeg = r := nI_clamp (by omega)
    obtain ⟨q, eq⟩ : ∃ q, q = r % 3 := ⟨_, rfl⟩
    have hq : q < 3 := by omega
    obtain ⟨L, eL⟩ : ∃ L, L = zRw u (2 * q) := ⟨_, rfl⟩
    rw [show spAlert u (nI r) = (0, nI (L.filter (wkS u r)).length, sPw u (alF u L r L.length)) by unfold spAlert; rw [if_neg hb, ej, ← eq, ← eL, alF_end]] at Q
    have h7 := hI.2.2.2.2.2.2.1 q hq
    have hlen : L.length ≤ 120 := by rw [eL]; exact (row_200 hI).1 q hq
    have hnd : L.Nodup := by rw [eL]; exact (List.nodup_append.mp h7.2.2.2.2.1).1
    have hmc := hI.2.1
    refine V_iconst (v := 0) C dX7_alert_11 rfl ?_
    refine V_goto (tgt := 16) C dX7_alert_12 (by decide) ?_
    refine V_invV C dX7_alert_16 hM rfl (m_fails _ _ _ _ _ _ hO) mv_7_101 rfl (Nat.le_of_ble_eq_true rfl) ⟨Nat.le_of_ble_eq_true rfl, Nat.le_of_ble_eq_true rfl⟩ ⟨Nat.le_of_ble_eq_true rfl, Nat.le_of_ble_eq_true rfl⟩ (fun _ _ _ h => VT_no h) (fun v ad1 F1 hp => ?_)
    obtain ⟨rfl, rfl, hO1, hfr⟩ := hp
    have hA : MRep (xD X) ad F1 u 0 := hM0.th hO1 hfr
    have hfrA := hfr
    have hM := hO1
    unfold mObj at hM
    refine V_ifeq_t (tgt := 24) C dX7_alert_19 (by decide) (by decide) ?_
    refine V_iload_n C dX7_alert_24 rfl ?_
    refine V_iconst (v := 3) C dX7_alert_25 rfl ?_
    refine V_irem C dX7_alert_26 (by decide) ?_
    refine V_nm (pk_rem (a := r) (d := 3) (by omega) (by decide) (by decide)) ?_
    rw [← eq]
    refine V_istore_n C dX7_alert_27 (by decide) ?_
    refine V_iconst (v := 0) C dX7_alert_28 rfl ?_
    refine V_istore_n C dX7_alert_29 (by decide) ?_
    refine V_sipush (v := 200) C dX7_alert_30 (by decide) ?_
    refine V_iload_n C dX7_alert_33 rfl ?_
    refine V_imul C dX7_alert_34 ?_
    refine V_nm (pk_mul 200 q) ?_
    refine V_istore C dX7_alert_35 (by decide) ?_
    have loop : ∀ (d t : Nat) (G : Fn), t + d = L.length → MRep (xD X) ad G (sPw u (alF u L r t)) 0 → (∀ c, (c < 300 ∨ 400 ≤ c) → G c = F c) →
        V X 0 0 37 [(0, .ref (ad 300)), (1, .int (nI r)), (2, .int (nI q)), (3, .int (nI ((L.take t).filter (wkS u r)).length)), (4, .int (nI (200 * q + t)))] [] ad G := by
      intro d
      induction d with
      | zero =>
        intro t G hd hR hfM
        have ht : t = L.length := by omega
        subst ht
        have hM := hR.1
        unfold mObj at hM
        obtain ⟨f315, h315, g315⟩ := hR.2.2.2.2.2.2.2.2.2.2.2.2.2.1
        have g315q : f315 q = nI L.length := by rw [eL]; exact g315 q hq
        refine V_iload C dX7_alert_37 rfl ?_
        refine V_sipush (v := 200) C dX7_alert_39 (by decide) ?_
        refine V_iload_n C dX7_alert_42 rfl ?_
        refine V_imul C dX7_alert_43 ?_
        refine V_nm (pk_mul 200 q) ?_
        refine V_aload_n C dX7_alert_44 rfl ?_
        refine V_get C dX7_alert_45 fr_7_44 hM rfl ?_
        refine V_iload_n C dX7_alert_48 rfl ?_
        refine V_iald C dX7_alert_49 h315 rfl hq (by decide) ?_
        refine V_nm g315q ?_
        refine V_iadd C dX7_alert_50 ?_
        refine V_nm (nI_add _ _) ?_
        refine V_icmpge_t (tgt := 140) C dX7_alert_51 (by decide) (Int32.le_refl _) ?_
        refine V_iload_n C dX7_alert_140 rfl ?_
        rw [List.take_length]
        exact V_ireturn C Q dX7_alert_141 rfl (Nat.le_of_ble_eq_true rfl) (Nat.le_of_ble_eq_true rfl) ⟨rfl, rfl, hR, fun c hc => ⟨rfl, hfM c hc⟩⟩
      | succ d ih =>
        intro t G hd hR hfM
        have hM := hR.1
        unfold mObj at hM
        obtain ⟨f306, h306, g306⟩ := hR.2.2.2.2.2.1
        obtain ⟨f313, h313, g313⟩ := hR.2.2.2.2.2.2.2.2.2.2.2.1
        obtain ⟨f315, h315, g315⟩ := hR.2.2.2.2.2.2.2.2.2.2.2.2.2.1
        obtain ⟨f316, h316, g316⟩ := hR.2.2.2.2.2.2.2.2.2.2.2.2.2.2.1
        have g315q : f315 q = nI L.length := by rw [eL]; exact g315 q hq
        obtain ⟨c, ec⟩ : ∃ c, c = L.getD t 0 := ⟨_, rfl⟩
        have htl : t < L.length := by omega
        have hcm : c ∈ zRw u (2 * q) := by rw [ec, ← eL]; exact getD_mem htl
        have hin := inr_eq hI (q_in hI hq hcm)
        have e10 : c - 100 = 10 * mOf c + pOf c := by omega
        have hfk : f316 (200 * q + t) = nI (c - 100) := by
          have h := g316 q hq t (by show t < (zRw u (2 * q)).length; rw [← eL]; exact htl)
          have h : f316 (200 * q + t) = nI ((zRw u (2 * q)).getD t 0 - 100) := h
          rw [← eL, ← ec] at h
          exact h
        have hpw1 := prt_pw hI (q_in hI hq hcm)
        have hpa : alF u L r t c = zPw u c := if_neg (fun h => nd_take hnd htl (by rw [← ec]; exact h.1))
        have hfw : f313 (c - 100) = nI (zPw u c) := by
          have h := g313 (mOf c) hin.1 (pOf c) hin.2.1
          rw [← hin.2.2.2.1, ← e10] at h
          have h : f313 (c - 100) = nI (alF u L r t c) := h
          rw [hpa] at h
          exact h
        have hrc : f306 (mOf c) = nI (zRc u (mOf c)) := g306 (mOf c) hin.1
        have hrc9 := (hI.2.2.2.2.2.1 (mOf c) hin.1).2.2.2.1
        have hwk : wkS u r c = decide (¬ nI (zPw u c) = 0 ∧ nI (zRc u (mOf c)) = nI r) := rfl
        have hfl := flt_suc (p := wkS u r) htl
        rw [← ec] at hfl
        have nx : ∀ (v : Nat) (G1 : Fn), v = (if wkS u r c = true then 0 else zPw u c) → G1 313 = some (aZ (xD X) 200 (upd f313 (c - 100) (nI v))) → (∀ x, x ≠ 313 → G1 x = G x) → V X 0 0 134 [(0, .ref (ad 300)), (1, .int (nI r)), (2, .int (nI q)), (3, .int (nI ((L.take (t + 1)).filter (wkS u r)).length)), (4, .int (nI (200 * q + t)))] [] ad G1 := by
          intro v G1 hv h313 hfr
          refine V_iinc C dX7_alert_134 rfl (nI_inc _) (by decide) ?_
          refine V_goto (tgt := 37) C dX7_alert_137 (by decide) ?_
          have hz := hR.pw (pw := alF u L r (t + 1)) ⟨_, h313, by rw [alF_suc htl ec, ← hv]; exact pN_upd g313 (by omega)⟩ hfr
          exact V_sb (ih (t + 1) G1 (by omega) hz (fun x hx => (hfr x (by omega)).trans (hfM x hx))) ⟨rfl, rfl, rfl, rfl, rfl, trivial⟩
        refine V_iload C dX7_alert_37 rfl ?_
        refine V_sipush (v := 200) C dX7_alert_39 (by decide) ?_
        refine V_iload_n C dX7_alert_42 rfl ?_
        refine V_imul C dX7_alert_43 ?_
        refine V_nm (pk_mul 200 q) ?_
        refine V_aload_n C dX7_alert_44 rfl ?_
        refine V_get C dX7_alert_45 fr_7_44 hM rfl ?_
        refine V_iload_n C dX7_alert_48 rfl ?_
        refine V_iald C dX7_alert_49 h315 rfl hq (by decide) ?_
        refine V_nm g315q ?_
        refine V_iadd C dX7_alert_50 ?_
        refine V_nm (nI_add _ _) ?_
        refine V_icmpge_f (tgt := 140) C dX7_alert_51 (by decide) (nI_ge (by omega) (by omega)) ?_
        refine V_aload_n C dX7_alert_54 rfl ?_
        refine V_get C dX7_alert_55 fr_7_47 hM rfl ?_
        refine V_iload C dX7_alert_58 rfl ?_
        refine V_iald C dX7_alert_60 h316 rfl (show 200 * q + t < 600 by omega) (by decide) ?_
        refine V_nm hfk ?_
        refine V_istore C dX7_alert_61 (by decide) ?_
        refine V_aload_n C dX7_alert_63 rfl ?_
        refine V_get C dX7_alert_64 fr_7_37 hM rfl ?_
        refine V_iload C dX7_alert_67 rfl ?_
        refine V_zald C dX7_alert_69 h313 rfl (show c - 100 < 200 by omega) (by decide) ?_
        refine V_nm hfw ?_
        refine V_ifeq (tgt := 91) C dX7_alert_70 (by decide) (fun h2 => ?_) (fun h2 => ?_)
        · have hp0 : zPw u c = 0 := (nI_eq (b := 0) (by omega) (by decide)).mp h2
          have hwf : ¬ wkS u r c = true := by rw [hwk, decide_eq_true_eq]; exact fun h => h.1 h2
          rw [if_neg hwf] at hfl
          have hv : 0 = (if wkS u r c = true then 0 else zPw u c) := by rw [if_neg hwf, hp0]
          refine V_iconst (v := 0) C dX7_alert_91 rfl ?_
          refine V_istore C dX7_alert_92 (by decide) ?_
          refine V_iload_n C dX7_alert_94 rfl ?_
          refine V_iload C dX7_alert_95 rfl ?_
          refine V_ifeq_t (tgt := 104) C dX7_alert_97 (by decide) (by decide) ?_
          refine V_iconst (v := 0) C dX7_alert_104 rfl ?_
          refine V_iadd C dX7_alert_105 ?_
          refine V_nm (by rw [Int32.add_zero]) ?_
          refine V_istore_n C dX7_alert_106 (by decide) ?_
          refine V_aload_n C dX7_alert_107 rfl ?_
          refine V_get C dX7_alert_108 fr_7_37 hM rfl ?_
          refine V_iload C dX7_alert_111 rfl ?_
          refine V_aload_n C dX7_alert_113 rfl ?_
          refine V_get C dX7_alert_114 fr_7_37 hM rfl ?_
          refine V_iload C dX7_alert_117 rfl ?_
          refine V_zald C dX7_alert_119 h313 rfl (show c - 100 < 200 by omega) (by decide) ?_
          refine V_nm hfw ?_
          refine V_ifeq_t (tgt := 132) C dX7_alert_120 (by decide) h2 ?_
          refine V_iconst (v := 0) C dX7_alert_132 rfl ?_
          refine V_nm (show (0 : Int32) = nI 0 from rfl) ?_
          refine G_zast C dX7_alert_133 h313 rfl (show c - 100 < 200 by omega) (by decide) rfl (fun G1 h313 hfr => ?_)
          exact V_sb (nx 0 G1 hv h313 hfr) ⟨rfl, rfl, rfl, by rw [hfl]; rfl, rfl, trivial⟩
        · have hp1 : zPw u c = 1 := by
            have h0 : zPw u c ≠ 0 := fun e => h2 (by rw [e]; rfl)
            omega
          refine V_aload_n C dX7_alert_73 rfl ?_
          refine V_get C dX7_alert_74 fr_7_19 hM rfl ?_
          refine V_iload C dX7_alert_77 rfl ?_
          refine V_bipush (v := 10) C dX7_alert_79 (by decide) ?_
          refine V_idiv C dX7_alert_81 (by decide) ?_
          refine V_nm (pk_div (a := c - 100) (d := 10) (by omega) (by decide) (by decide)) ?_
          refine V_iald C dX7_alert_82 h306 (show nI ((c - 100) / 10) = nI (mOf c) from rfl) (show mOf c < 20 by omega) (by decide) ?_
          refine V_nm hrc ?_
          refine V_iload_n C dX7_alert_83 rfl ?_
          refine V_icmpne (tgt := 91) C dX7_alert_84 (by decide) (fun h3 => ?_) (fun h3 => ?_)
          · have hwf : ¬ wkS u r c = true := by rw [hwk, decide_eq_true_eq]; exact fun h => h3 h.2
            rw [if_neg hwf] at hfl
            have hv : 1 = (if wkS u r c = true then 0 else zPw u c) := by rw [if_neg hwf, hp1]
            refine V_iconst (v := 0) C dX7_alert_91 rfl ?_
            refine V_istore C dX7_alert_92 (by decide) ?_
            refine V_iload_n C dX7_alert_94 rfl ?_
            refine V_iload C dX7_alert_95 rfl ?_
            refine V_ifeq_t (tgt := 104) C dX7_alert_97 (by decide) (by decide) ?_
            refine V_iconst (v := 0) C dX7_alert_104 rfl ?_
            refine V_iadd C dX7_alert_105 ?_
            refine V_nm (by rw [Int32.add_zero]) ?_
            refine V_istore_n C dX7_alert_106 (by decide) ?_
            refine V_aload_n C dX7_alert_107 rfl ?_
            refine V_get C dX7_alert_108 fr_7_37 hM rfl ?_
            refine V_iload C dX7_alert_111 rfl ?_
            refine V_aload_n C dX7_alert_113 rfl ?_
            refine V_get C dX7_alert_114 fr_7_37 hM rfl ?_
            refine V_iload C dX7_alert_117 rfl ?_
            refine V_zald C dX7_alert_119 h313 rfl (show c - 100 < 200 by omega) (by decide) ?_
            refine V_nm hfw ?_
            refine V_ifeq_f (tgt := 132) C dX7_alert_120 (by decide) h2 ?_
            refine V_iload C dX7_alert_123 rfl ?_
            refine V_ifne_f (tgt := 132) C dX7_alert_125 (by decide) rfl ?_
            refine V_iconst (v := 1) C dX7_alert_128 rfl ?_
            refine V_goto (tgt := 133) C dX7_alert_129 (by decide) ?_
            refine V_nm (show (1 : Int32) = nI 1 from rfl) ?_
            refine G_zast C dX7_alert_133 h313 rfl (show c - 100 < 200 by omega) (by decide) rfl (fun G1 h313 hfr => ?_)
            exact V_sb (nx 1 G1 hv h313 hfr) ⟨rfl, rfl, rfl, by rw [hfl]; rfl, rfl, trivial⟩
          · have hwt : wkS u r c = true := by rw [hwk, decide_eq_true_eq]; exact ⟨h2, h3⟩
            rw [if_pos hwt] at hfl
            have hv : 0 = (if wkS u r c = true then 0 else zPw u c) := (if_pos hwt).symm
            refine V_iconst (v := 1) C dX7_alert_87 rfl ?_
            refine V_goto (tgt := 92) C dX7_alert_88 (by decide) ?_
            refine V_istore C dX7_alert_92 (by decide) ?_
            refine V_iload_n C dX7_alert_94 rfl ?_
            refine V_iload C dX7_alert_95 rfl ?_
            refine V_ifeq_f (tgt := 104) C dX7_alert_97 (by decide) (by decide) ?_
            refine V_iconst (v := 1) C dX7_alert_100 rfl ?_
            refine V_goto (tgt := 105) C dX7_alert_101 (by decide) ?_
            refine V_iadd C dX7_alert_105 ?_
            refine V_nm (nI_1 _) ?_
            refine V_istore_n C dX7_alert_106 (by decide) ?_
            refine V_aload_n C dX7_alert_107 rfl ?_
            refine V_get C dX7_alert_108 fr_7_37 hM rfl ?_
            refine V_iload C dX7_alert_111 rfl ?_
            refine V_aload_n C dX7_alert_113 rfl ?_
            refine V_get C dX7_alert_114 fr_7_37 hM rfl ?_
            refine V_iload C dX7_alert_117 rfl ?_
            refine V_zald C dX7_alert_119 h313 rfl (show c - 100 < 200 by omega) (by decide) ?_
            refine V_nm hfw ?_
            refine V_ifeq_f (tgt := 132) C dX7_alert_120 (by decide) h2 ?_
            refine V_iload C dX7_alert_123 rfl ?_
            refine V_ifne_t (tgt := 132) C dX7_alert_125 (by decide) (by decide) ?_
            refine V_iconst (v := 0) C dX7_alert_132 rfl ?_
            refine V_nm (show (0 : Int32) = nI 0 from rfl) ?_
            refine G_zast C dX7_alert_133 h313 rfl (show c - 100 < 200 by omega) (by decide) rfl (fun G1 h313 hfr => ?_)
            exact V_sb (nx 0 G1 hv h313 hfr) ⟨rfl, rfl, rfl, by rw [hfl, List.length_append]; rfl, rfl, trivial⟩
    exact V_sb (loop L.length 0 F1 (Nat.zero_add _) (by rw [alF_0, sPw_id]; exact hA) (fun c hc => hfrA c (by omega))) ⟨rfl, rfl, rfl, by rw [List.take_zero]; rfl, rfl, trivial⟩
