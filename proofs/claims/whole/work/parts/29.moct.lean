/-! ===== the model's septets and octets ===== -/
theorem octN_le {L : List Nat} (h : L.length ≤ 400) (k : Nat) : octN L k ≤ 1000 := by
  have hpe := posL_le L (k + 1)
  have hs := septL_le (L := ptL L k)
  have hp := ptL_len (L := L) k
  unfold octN
  split <;> omega
set_option maxHeartbeats 400000 in
set_option maxRecDepth 100000 in
/-- septet -/
theorem m_septet {l : Launch} {D : Dx} {b0 : Nat} {ad : Nat → Nat} {F : Fn} (u : St) (th : Int32) (k x : Nat) (hM0 : MRep D ad F u th) (hl4 : (zTxt u).length ≤ 400) (hk : k < npL (zTxt u)) (hx : x < 2 ^ 30) : Ct l D b0 yX7_septet (wsA yX7_septet cX7_septet 6 (some .int)) (rK 4) [.ref (ad 300), .int (nI k), .int (nI x)] ad F (pRd (some (.int (nI (sepF (ptL (zTxt u) k) x)))) ad F) noX := by
  refine Ct.of (by decide +kernel) (by simp [Value.category]) (Nat.le_of_ble_eq_true rfl) (fun X eD eb el C Q => ?_)
  subst eD; subst eb; subst el
  have hO := hM0.1
  have hM := hO
  unfold mObj at hM
  have h6 := (npL_spec hl4).1
  have hpe := posL_le (zTxt u) (k + 1)
  have hpm := posL_mono (zTxt u) (show k ≤ k + 1 by omega)
  have hxs := hM0.2.1.2.2.1
  have r302 := hM0.2.1
  obtain ⟨f302, h302, g302⟩ := r302.2.2.2
  refine V_aload_n C dX7_septet_0 rfl ?_
  refine V_get C dX7_septet_1 fr_7_7 hM rfl ?_
  refine V_iconst (v := 0) C dX7_septet_4 rfl ?_
  refine V_nm (show (0 : Int32) = nI 0 from rfl) ?_
  refine V_aload_n C dX7_septet_5 rfl ?_
  refine V_get C dX7_septet_6 fr_7_98 hM rfl ?_
  refine V_iload_n C dX7_septet_9 rfl ?_
  refine V_invS C dX7_septet_10 (m_begins 302 400 0 k (zTxt u) hM0.2.1 hl4 (by omega)) ms_7_114 rfl (Nat.le_of_ble_eq_true rfl) ⟨Nat.le_of_ble_eq_true rfl, Nat.le_of_ble_eq_true rfl⟩ ⟨Nat.le_of_ble_eq_true rfl, Nat.le_of_ble_eq_true rfl⟩ (fun _ _ _ h => VT_no h) (fun v ad1 F1 hp => ?_)
  obtain ⟨rfl, rfl, rfl⟩ := hp
  refine V_istore_n C dX7_septet_13 (by decide) ?_
  refine V_iload_n C dX7_septet_14 rfl ?_
  refine V_istore C dX7_septet_15 (by decide) ?_
  refine V_iload_n C dX7_septet_17 rfl ?_
  refine V_istore C dX7_septet_18 (by decide) ?_
  have loop : ∀ (d i lf : Nat), i + d = posL (zTxt u) (k + 1) → posL (zTxt u) k ≤ i → lf ≤ x → sepF (((zTxt u).drop i).take (posL (zTxt u) (k + 1) - i)) lf = sepF (ptL (zTxt u) k) x →
      V X 0 0 20 [(0, .ref (ad 300)), (1, .int (nI k)), (2, .int (nI x)), (3, .int (nI (posL (zTxt u) k))), (4, .int (nI lf)), (5, .int (nI i))] [] ad F := by
    intro d
    induction d with
    | zero =>
      intro i lf hd hi0 hlf hs
      have hi : i = posL (zTxt u) (k + 1) := by omega
      subst hi
      rw [Nat.sub_self, List.take_zero] at hs
      have hs : 0 = sepF (ptL (zTxt u) k) x := hs
      rw [← hs] at Q
      refine V_iload C dX7_septet_20 rfl ?_
      refine V_iload_n C dX7_septet_22 rfl ?_
      refine V_aload_n C dX7_septet_23 rfl ?_
      refine V_get C dX7_septet_24 fr_7_7 hM rfl ?_
      refine V_iconst (v := 0) C dX7_septet_27 rfl ?_
      refine V_nm (show (0 : Int32) = nI 0 from rfl) ?_
      refine V_aload_n C dX7_septet_28 rfl ?_
      refine V_get C dX7_septet_29 fr_7_98 hM rfl ?_
      refine V_iload_n C dX7_septet_32 rfl ?_
      refine V_invS C dX7_septet_33 (m_signsOf 302 400 0 k (zTxt u) hM0.2.1 hl4 (by omega)) ms_7_90 rfl (Nat.le_of_ble_eq_true rfl) ⟨Nat.le_of_ble_eq_true rfl, Nat.le_of_ble_eq_true rfl⟩ ⟨Nat.le_of_ble_eq_true rfl, Nat.le_of_ble_eq_true rfl⟩ (fun _ _ _ h => VT_no h) (fun v ad1 F1 hp => ?_)
      obtain ⟨rfl, rfl, rfl⟩ := hp
      refine V_iadd C dX7_septet_36 ?_
      refine V_nm (nI_add _ _) ?_
      rw [show posL (zTxt u) k + (posL (zTxt u) (k + 1) - posL (zTxt u) k) = posL (zTxt u) (k + 1) by omega]
      refine V_icmpge_t (tgt := 121) C dX7_septet_37 (by decide) (Int32.le_refl _) ?_
      refine V_iconst (v := 0) C dX7_septet_121 rfl ?_
      exact V_ireturn C Q dX7_septet_122 rfl (Nat.le_of_ble_eq_true rfl) (Nat.le_of_ble_eq_true rfl) ⟨rfl, rfl, rfl⟩
    | succ d ih =>
      intro i lf hd hi0 hlf hs
      have hilt : i < (zTxt u).length := by omega
      have gi := g302 i hilt
      rw [Nat.zero_add] at gi
      obtain ⟨y, hy⟩ : ∃ y, y = (zTxt u).getD i 0 := ⟨_, rfl⟩
      have hx9 := getD_lt hxs i
      rw [sub_drop (show i < posL (zTxt u) (k + 1) by omega) hpe] at hs
      rw [← hy] at gi hs hx9
      have hw2 := w1_12 y
      have hs : (if lf < w1 y then sptO y lf else sepF (((zTxt u).drop (i + 1)).take (posL (zTxt u) (k + 1) - (i + 1))) (lf - w1 y)) = sepF (ptL (zTxt u) k) x := hs
      refine V_iload C dX7_septet_20 rfl ?_
      refine V_iload_n C dX7_septet_22 rfl ?_
      refine V_aload_n C dX7_septet_23 rfl ?_
      refine V_get C dX7_septet_24 fr_7_7 hM rfl ?_
      refine V_iconst (v := 0) C dX7_septet_27 rfl ?_
      refine V_nm (show (0 : Int32) = nI 0 from rfl) ?_
      refine V_aload_n C dX7_septet_28 rfl ?_
      refine V_get C dX7_septet_29 fr_7_98 hM rfl ?_
      refine V_iload_n C dX7_septet_32 rfl ?_
      refine V_invS C dX7_septet_33 (m_signsOf 302 400 0 k (zTxt u) hM0.2.1 hl4 (by omega)) ms_7_90 rfl (Nat.le_of_ble_eq_true rfl) ⟨Nat.le_of_ble_eq_true rfl, Nat.le_of_ble_eq_true rfl⟩ ⟨Nat.le_of_ble_eq_true rfl, Nat.le_of_ble_eq_true rfl⟩ (fun _ _ _ h => VT_no h) (fun v ad1 F1 hp => ?_)
      obtain ⟨rfl, rfl, rfl⟩ := hp
      refine V_iadd C dX7_septet_36 ?_
      refine V_nm (nI_add _ _) ?_
      rw [show posL (zTxt u) k + (posL (zTxt u) (k + 1) - posL (zTxt u) k) = posL (zTxt u) (k + 1) by omega]
      refine V_icmpge_f (tgt := 121) C dX7_septet_37 (by decide) (nI_ge (by omega) (by omega)) ?_
      refine V_iload C dX7_septet_40 rfl ?_
      refine V_aload_n C dX7_septet_42 rfl ?_
      refine V_get C dX7_septet_43 fr_7_7 hM rfl ?_
      refine V_iload C dX7_septet_46 rfl ?_
      refine V_iald C dX7_septet_48 h302 rfl (show i < 400 by have := hM0.2.1.2.1; omega) (by decide) ?_
      refine V_nm gi ?_
      refine V_invS C dX7_septet_49 (m_width y hx9) ms_7_78 rfl (Nat.le_of_ble_eq_true rfl) ⟨Nat.le_of_ble_eq_true rfl, Nat.le_of_ble_eq_true rfl⟩ ⟨Nat.le_of_ble_eq_true rfl, Nat.le_of_ble_eq_true rfl⟩ (fun _ _ _ h => VT_no h) (fun v ad1 F1 hp => ?_)
      obtain ⟨rfl, rfl, rfl⟩ := hp
      refine V_icmpge (tgt := 100) C dX7_septet_52 (by decide) (fun h2 => ?_) (fun h2 => ?_)
      · have hle : w1 y ≤ lf := (nI_leI (by omega) (by omega)).mp h2
        rw [if_neg (by omega)] at hs
        refine V_iload C dX7_septet_100 rfl ?_
        refine V_aload_n C dX7_septet_102 rfl ?_
        refine V_get C dX7_septet_103 fr_7_7 hM rfl ?_
        refine V_iload C dX7_septet_106 rfl ?_
        refine V_iald C dX7_septet_108 h302 rfl (show i < 400 by have := hM0.2.1.2.1; omega) (by decide) ?_
        refine V_nm gi ?_
        refine V_invS C dX7_septet_109 (m_width y hx9) ms_7_78 rfl (Nat.le_of_ble_eq_true rfl) ⟨Nat.le_of_ble_eq_true rfl, Nat.le_of_ble_eq_true rfl⟩ ⟨Nat.le_of_ble_eq_true rfl, Nat.le_of_ble_eq_true rfl⟩ (fun _ _ _ h => VT_no h) (fun v ad1 F1 hp => ?_)
        obtain ⟨rfl, rfl, rfl⟩ := hp
        refine V_isub C dX7_septet_112 ?_
        refine V_nm (pk_sub hle) ?_
        refine V_istore C dX7_septet_113 (by decide) ?_
        refine V_iinc C dX7_septet_115 rfl (nI_inc _) (by decide) ?_
        refine V_goto (tgt := 20) C dX7_septet_118 (by decide) ?_
        exact V_sb (ih (i + 1) (lf - w1 y) (by omega) (by omega) (by omega) hs) ⟨rfl, rfl, rfl, rfl, rfl, rfl, trivial⟩
      · have hlt : lf < w1 y := Nat.lt_of_not_le (fun h => h2 (nI_le h (by omega)))
        rw [if_pos hlt] at hs
        rw [← hs] at Q
        refine V_aload_n C dX7_septet_55 rfl ?_
        refine V_get C dX7_septet_56 fr_7_7 hM rfl ?_
        refine V_iload C dX7_septet_59 rfl ?_
        refine V_iald C dX7_septet_61 h302 rfl (show i < 400 by have := hM0.2.1.2.1; omega) (by decide) ?_
        refine V_nm gi ?_
        refine V_sipush (v := 128) C dX7_septet_62 (by decide) ?_
        refine V_icmpge (tgt := 78) C dX7_septet_65 (by decide) (fun h3 => ?_) (fun h3 => ?_)
        · have h128 : ¬ y < 128 := fun h => absurd (show nI y < 128 from nI_lt h (by decide)) (Int32.not_lt.mpr h3)
          refine V_iload C dX7_septet_78 rfl ?_
          refine V_ifne (tgt := 88) C dX7_septet_80 (by decide) (fun h4 => ?_) (fun h4 => ?_)
          · rw [show sptO y lf = y - 128 by unfold sptO; rw [if_neg h128, if_neg (fun e => h4 (by rw [e]; rfl))]] at Q
            refine V_aload_n C dX7_septet_88 rfl ?_
            refine V_get C dX7_septet_89 fr_7_7 hM rfl ?_
            refine V_iload C dX7_septet_92 rfl ?_
            refine V_iald C dX7_septet_94 h302 rfl (show i < 400 by have := hM0.2.1.2.1; omega) (by decide) ?_
            refine V_nm gi ?_
            refine V_sipush (v := 128) C dX7_septet_95 (by decide) ?_
            refine V_isub C dX7_septet_98 ?_
            refine V_nm (pk_sub (a := y) (b := 128) (by omega)) ?_
            exact V_ireturn C Q dX7_septet_99 rfl (Nat.le_of_ble_eq_true rfl) (Nat.le_of_ble_eq_true rfl) ⟨rfl, rfl, rfl⟩
          · rw [show sptO y lf = 27 by unfold sptO; rw [if_neg h128, if_pos ((nI_eq (b := 0) (by omega) (by decide)).mp h4)]] at Q
            refine V_bipush (v := 27) C dX7_septet_83 (by decide) ?_
            refine V_goto (tgt := 99) C dX7_septet_85 (by decide) ?_
            exact V_ireturn C Q dX7_septet_99 rfl (Nat.le_of_ble_eq_true rfl) (Nat.le_of_ble_eq_true rfl) ⟨rfl, rfl, rfl⟩
        · rw [show sptO y lf = y by unfold sptO; rw [if_pos (Nat.lt_of_not_le (fun h => h3 (nI_le (a := 128) h (by omega))))]] at Q
          refine V_aload_n C dX7_septet_68 rfl ?_
          refine V_get C dX7_septet_69 fr_7_7 hM rfl ?_
          refine V_iload C dX7_septet_72 rfl ?_
          refine V_iald C dX7_septet_74 h302 rfl (show i < 400 by have := hM0.2.1.2.1; omega) (by decide) ?_
          refine V_nm gi ?_
          refine V_goto (tgt := 99) C dX7_septet_75 (by decide) ?_
          exact V_ireturn C Q dX7_septet_99 rfl (Nat.le_of_ble_eq_true rfl) (Nat.le_of_ble_eq_true rfl) ⟨rfl, rfl, rfl⟩
  exact V_sb (loop (posL (zTxt u) (k + 1) - posL (zTxt u) k) (posL (zTxt u) k) x (by omega) (Nat.le_refl _) (Nat.le_refl _) rfl) ⟨rfl, rfl, rfl, rfl, rfl, rfl, trivial⟩
set_option maxHeartbeats 400000 in
set_option maxRecDepth 100000 in
/-- octet -/
theorem m_octet {l : Launch} {D : Dx} {b0 : Nat} {ad : Nat → Nat} {F : Fn} (u : St) (th : Int32) (a b : Int32) (hM0 : MRep D ad F u th) (hl4 : (zTxt u).length ≤ 400) : Ct l D b0 yX7_octet (wsA yX7_octet cX7_octet 6 (some .int)) (rK 5) [.ref (ad 300), .int a, .int b] ad F (PoM D ad F (spOct u a b)) noX := by
  refine Ct.of (by decide +kernel) (by simp [Value.category]) (Nat.le_of_ble_eq_true rfl) (fun X eD eb el C Q => ?_)
  subst eD; subst eb; subst el
  have hO := hM0.1
  have hM := hO
  unfold mObj at hM
  refine V_aload_n C dX7_octet_0 rfl ?_
  refine V_iload_n C dX7_octet_1 rfl ?_
  refine V_invV C dX7_octet_2 hM rfl (m_isPart u th a hM0 hl4) mv_7_111 rfl (Nat.le_of_ble_eq_true rfl) ⟨Nat.le_of_ble_eq_true rfl, Nat.le_of_ble_eq_true rfl⟩ ⟨Nat.le_of_ble_eq_true rfl, Nat.le_of_ble_eq_true rfl⟩ (fun _ _ _ h => VT_no h) (fun v ad1 F1 hp => ?_)
  obtain ⟨rfl, rfl, rfl⟩ := hp
  refine V_ifeq (tgt := 25) C dX7_octet_5 (by decide) (fun h1 => ?_) (fun h1 => ?_)
  · have hb : a < 0 ∨ nI (npL (zTxt u)) ≤ a := by
      by_cases hb : a < 0 ∨ nI (npL (zTxt u)) ≤ a
      · exact hb
      · rw [if_neg hb] at h1; exact absurd h1 (by decide)
    refine V_iconst (v := 0) C dX7_octet_25 rfl ?_
    refine V_istore_n C dX7_octet_26 (by decide) ?_
    refine V_aload_n C dX7_octet_27 rfl ?_
    refine V_iload_n C dX7_octet_28 rfl ?_
    refine V_ifeq_t (tgt := 36) C dX7_octet_29 (by decide) rfl ?_
    rw [show spOct u a b = (1, 0, u) from if_pos hb] at Q
    refine V_iconst (v := 1) C dX7_octet_36 rfl ?_
    refine V_invV C dX7_octet_37 hM rfl (m_fails _ _ _ _ _ _ hO) mv_7_101 rfl (Nat.le_of_ble_eq_true rfl) ⟨Nat.le_of_ble_eq_true rfl, Nat.le_of_ble_eq_true rfl⟩ ⟨Nat.le_of_ble_eq_true rfl, Nat.le_of_ble_eq_true rfl⟩ (fun _ _ _ h => VT_no h) (fun v ad1 F1 hp => ?_)
    obtain ⟨rfl, rfl, hO1, hfr⟩ := hp
    refine V_ifeq_f (tgt := 45) C dX7_octet_40 (by decide) (by decide) ?_
    refine V_iconst (v := 0) C dX7_octet_43 rfl ?_
    exact V_ireturn C Q dX7_octet_44 rfl (Nat.le_of_ble_eq_true rfl) (Nat.le_of_ble_eq_true rfl) ⟨rfl, rfl, hM0.th hO1 hfr, fun c hc => ⟨rfl, hfr c (by omega)⟩⟩
  · have hb : ¬ (a < 0 ∨ nI (npL (zTxt u)) ≤ a) := fun hb => h1 (if_pos hb)
    have h6 := (npL_spec hl4).1
    obtain ⟨k, hk, rfl⟩ := badI_not (a := a) (n := npL (zTxt u)) (by omega) hb
    have ek : (nI k).toNatClampNeg = k := nI_clamp (by omega)
    have hpe := posL_le (zTxt u) (k + 1)
    have hpm := posL_mono (zTxt u) (show k ≤ k + 1 by omega)
    have ho := octN_le hl4 k
    have eo : spOct u (nI k) b = if b < 0 ∨ nI (octN (zTxt u) k) ≤ b then (1, 0, u) else (0, octI (zTxt u) k b.toNatClampNeg, u) := by unfold spOct; rw [if_neg hb, ek]
    rw [eo] at Q
    refine V_iload_n C dX7_octet_8 rfl ?_
    refine V_iflt (tgt := 25) C dX7_octet_9 (by decide) (fun h2 => ?_) (fun h2 => ?_)
    · refine V_iconst (v := 0) C dX7_octet_25 rfl ?_
      refine V_istore_n C dX7_octet_26 (by decide) ?_
      refine V_aload_n C dX7_octet_27 rfl ?_
      refine V_iload_n C dX7_octet_28 rfl ?_
      refine V_ifeq_t (tgt := 36) C dX7_octet_29 (by decide) rfl ?_
      rw [if_pos (Or.inl h2)] at Q
      refine V_iconst (v := 1) C dX7_octet_36 rfl ?_
      refine V_invV C dX7_octet_37 hM rfl (m_fails _ _ _ _ _ _ hO) mv_7_101 rfl (Nat.le_of_ble_eq_true rfl) ⟨Nat.le_of_ble_eq_true rfl, Nat.le_of_ble_eq_true rfl⟩ ⟨Nat.le_of_ble_eq_true rfl, Nat.le_of_ble_eq_true rfl⟩ (fun _ _ _ h => VT_no h) (fun v ad1 F1 hp => ?_)
      obtain ⟨rfl, rfl, hO1, hfr⟩ := hp
      refine V_ifeq_f (tgt := 45) C dX7_octet_40 (by decide) (by decide) ?_
      refine V_iconst (v := 0) C dX7_octet_43 rfl ?_
      exact V_ireturn C Q dX7_octet_44 rfl (Nat.le_of_ble_eq_true rfl) (Nat.le_of_ble_eq_true rfl) ⟨rfl, rfl, hM0.th hO1 hfr, fun c hc => ⟨rfl, hfr c (by omega)⟩⟩
    · refine V_iload_n C dX7_octet_12 rfl ?_
      refine V_aload_n C dX7_octet_13 rfl ?_
      refine V_iload_n C dX7_octet_14 rfl ?_
      refine V_invV C dX7_octet_15 hM rfl (m_octetsOf u th k hM0 hl4 hk) mv_7_117 rfl (Nat.le_of_ble_eq_true rfl) ⟨Nat.le_of_ble_eq_true rfl, Nat.le_of_ble_eq_true rfl⟩ ⟨Nat.le_of_ble_eq_true rfl, Nat.le_of_ble_eq_true rfl⟩ (fun _ _ _ h => VT_no h) (fun v ad1 F1 hp => ?_)
      obtain ⟨rfl, rfl, rfl⟩ := hp
      refine V_icmpge (tgt := 25) C dX7_octet_18 (by decide) (fun h3 => ?_) (fun h3 => ?_)
      · refine V_iconst (v := 0) C dX7_octet_25 rfl ?_
        refine V_istore_n C dX7_octet_26 (by decide) ?_
        refine V_aload_n C dX7_octet_27 rfl ?_
        refine V_iload_n C dX7_octet_28 rfl ?_
        refine V_ifeq_t (tgt := 36) C dX7_octet_29 (by decide) rfl ?_
        rw [if_pos (Or.inr h3)] at Q
        refine V_iconst (v := 1) C dX7_octet_36 rfl ?_
        refine V_invV C dX7_octet_37 hM rfl (m_fails _ _ _ _ _ _ hO) mv_7_101 rfl (Nat.le_of_ble_eq_true rfl) ⟨Nat.le_of_ble_eq_true rfl, Nat.le_of_ble_eq_true rfl⟩ ⟨Nat.le_of_ble_eq_true rfl, Nat.le_of_ble_eq_true rfl⟩ (fun _ _ _ h => VT_no h) (fun v ad1 F1 hp => ?_)
        obtain ⟨rfl, rfl, hO1, hfr⟩ := hp
        refine V_ifeq_f (tgt := 45) C dX7_octet_40 (by decide) (by decide) ?_
        refine V_iconst (v := 0) C dX7_octet_43 rfl ?_
        exact V_ireturn C Q dX7_octet_44 rfl (Nat.le_of_ble_eq_true rfl) (Nat.le_of_ble_eq_true rfl) ⟨rfl, rfl, hM0.th hO1 hfr, fun c hc => ⟨rfl, hfr c (by omega)⟩⟩
      · have hb2 : ¬ (b < 0 ∨ nI (octN (zTxt u) k) ≤ b) := fun h => h.elim h2 h3
        rw [if_neg hb2] at Q
        obtain ⟨x, hx, rfl⟩ := badI_not (a := b) (n := octN (zTxt u) k) (by omega) hb2
        rw [show (nI x).toNatClampNeg = x from nI_clamp (by omega)] at Q
        have oN : octN (zTxt u) k = if wideL (zTxt u) then 2 * (posL (zTxt u) (k + 1) - posL (zTxt u) k) else (7 * septL (ptL (zTxt u) k) + 7) / 8 := rfl
        have oI : octI (zTxt u) k x = if wideL (zTxt u) then (if x % 2 = 0 then nI ((zTxt u).getD (posL (zTxt u) k + x / 2) 0 / 256) else nI ((zTxt u).getD (posL (zTxt u) k + x / 2) 0 % 256)) else ((nI (sepF (ptL (zTxt u) k) (8 * x / 7)) ||| (nI (sepF (ptL (zTxt u) k) (8 * x / 7 + 1)) <<< ((7 : Int32) &&& 31))) >>> (nI (8 * x % 7) &&& 31)) &&& 255 := rfl
        refine V_iconst (v := 1) C dX7_octet_21 rfl ?_
        refine V_goto (tgt := 26) C dX7_octet_22 (by decide) ?_
        refine V_istore_n C dX7_octet_26 (by decide) ?_
        refine V_aload_n C dX7_octet_27 rfl ?_
        refine V_iload_n C dX7_octet_28 rfl ?_
        refine V_ifeq_f (tgt := 36) C dX7_octet_29 (by decide) (by decide) ?_
        refine V_iconst (v := 0) C dX7_octet_32 rfl ?_
        refine V_goto (tgt := 37) C dX7_octet_33 (by decide) ?_
        refine V_invV C dX7_octet_37 hM rfl (m_fails _ _ _ _ _ _ hO) mv_7_101 rfl (Nat.le_of_ble_eq_true rfl) ⟨Nat.le_of_ble_eq_true rfl, Nat.le_of_ble_eq_true rfl⟩ ⟨Nat.le_of_ble_eq_true rfl, Nat.le_of_ble_eq_true rfl⟩ (fun _ _ _ h => VT_no h) (fun v ad1 F1 hp => ?_)
        obtain ⟨rfl, rfl, hO1, hfr⟩ := hp
        have hA : MRep (xD X) ad F1 u 0 := hM0.th hO1 hfr
        have hfrA := hfr
        have hM := hO1
        unfold mObj at hM
        refine V_ifeq_t (tgt := 45) C dX7_octet_40 (by decide) (by decide) ?_
        refine V_aload_n C dX7_octet_45 rfl ?_
        refine V_get C dX7_octet_46 fr_7_7 hM rfl ?_
        refine V_iconst (v := 0) C dX7_octet_49 rfl ?_
        refine V_nm (show (0 : Int32) = nI 0 from rfl) ?_
        refine V_aload_n C dX7_octet_50 rfl ?_
        refine V_get C dX7_octet_51 fr_7_98 hM rfl ?_
        refine V_invS C dX7_octet_54 (m_hasWide 302 400 0 (zTxt u) hA.2.1) ms_7_82 rfl (Nat.le_of_ble_eq_true rfl) ⟨Nat.le_of_ble_eq_true rfl, Nat.le_of_ble_eq_true rfl⟩ ⟨Nat.le_of_ble_eq_true rfl, Nat.le_of_ble_eq_true rfl⟩ (fun _ _ _ h => VT_no h) (fun v ad1 F1 hp => ?_)
        obtain ⟨rfl, rfl, rfl⟩ := hp
        refine V_ifeq (tgt := 106) C dX7_octet_57 (by decide) (fun h4 => ?_) (fun h4 => ?_)
        · rw [oI, if_neg (wide_fa h4)] at Q
          refine V_bipush (v := 8) C dX7_octet_106 (by decide) ?_
          refine V_iload_n C dX7_octet_108 rfl ?_
          refine V_imul C dX7_octet_109 ?_
          refine V_nm (pk_mul 8 x) ?_
          refine V_istore C dX7_octet_110 (by decide) ?_
          refine V_aload_n C dX7_octet_112 rfl ?_
          refine V_iload_n C dX7_octet_113 rfl ?_
          refine V_iload C dX7_octet_114 rfl ?_
          refine V_bipush (v := 7) C dX7_octet_116 (by decide) ?_
          refine V_idiv C dX7_octet_118 (by decide) ?_
          refine V_nm (pk_div (a := 8 * x) (d := 7) (by omega) (by decide) (by decide)) ?_
          refine V_invV C dX7_octet_119 hM rfl (m_septet u 0 k (8 * x / 7) hA hl4 hk (by omega)) mv_7_120 rfl (Nat.le_of_ble_eq_true rfl) ⟨Nat.le_of_ble_eq_true rfl, Nat.le_of_ble_eq_true rfl⟩ ⟨Nat.le_of_ble_eq_true rfl, Nat.le_of_ble_eq_true rfl⟩ (fun _ _ _ h => VT_no h) (fun v ad1 F1 hp => ?_)
          obtain ⟨rfl, rfl, rfl⟩ := hp
          refine V_aload_n C dX7_octet_122 rfl ?_
          refine V_iload_n C dX7_octet_123 rfl ?_
          refine V_iload C dX7_octet_124 rfl ?_
          refine V_bipush (v := 7) C dX7_octet_126 (by decide) ?_
          refine V_idiv C dX7_octet_128 (by decide) ?_
          refine V_nm (pk_div (a := 8 * x) (d := 7) (by omega) (by decide) (by decide)) ?_
          refine V_iconst (v := 1) C dX7_octet_129 rfl ?_
          refine V_iadd C dX7_octet_130 ?_
          refine V_nm (nI_1 _) ?_
          refine V_invV C dX7_octet_131 hM rfl (m_septet u 0 k (8 * x / 7 + 1) hA hl4 hk (by omega)) mv_7_120 rfl (Nat.le_of_ble_eq_true rfl) ⟨Nat.le_of_ble_eq_true rfl, Nat.le_of_ble_eq_true rfl⟩ ⟨Nat.le_of_ble_eq_true rfl, Nat.le_of_ble_eq_true rfl⟩ (fun _ _ _ h => VT_no h) (fun v ad1 F1 hp => ?_)
          obtain ⟨rfl, rfl, rfl⟩ := hp
          refine V_bipush (v := 7) C dX7_octet_134 (by decide) ?_
          refine V_ishl C dX7_octet_136 ?_
          refine V_ior C dX7_octet_137 ?_
          refine V_istore C dX7_octet_138 (by decide) ?_
          refine V_iload C dX7_octet_140 rfl ?_
          refine V_iload C dX7_octet_142 rfl ?_
          refine V_bipush (v := 7) C dX7_octet_144 (by decide) ?_
          refine V_irem C dX7_octet_146 (by decide) ?_
          refine V_nm (pk_rem (a := 8 * x) (d := 7) (by omega) (by decide) (by decide)) ?_
          refine V_ishr C dX7_octet_147 ?_
          refine V_sipush (v := 255) C dX7_octet_148 (by decide) ?_
          refine V_iand C dX7_octet_151 ?_
          exact V_ireturn C Q dX7_octet_152 rfl (Nat.le_of_ble_eq_true rfl) (Nat.le_of_ble_eq_true rfl) ⟨rfl, rfl, hA, fun c hc => ⟨rfl, hfrA c (by omega)⟩⟩
        · have hw := wide_tr h4
          rw [if_pos hw] at oN
          rw [oI, if_pos hw] at Q
          have r302 := hA.2.1
          obtain ⟨f302, h302, g302⟩ := r302.2.2.2
          have gi := g302 (posL (zTxt u) k + x / 2) (by omega)
          rw [Nat.zero_add] at gi
          have hx9 := getD_lt r302.2.2.1 (posL (zTxt u) k + x / 2)
          refine V_aload_n C dX7_octet_60 rfl ?_
          refine V_get C dX7_octet_61 fr_7_7 hM rfl ?_
          refine V_aload_n C dX7_octet_64 rfl ?_
          refine V_get C dX7_octet_65 fr_7_7 hM rfl ?_
          refine V_iconst (v := 0) C dX7_octet_68 rfl ?_
          refine V_nm (show (0 : Int32) = nI 0 from rfl) ?_
          refine V_aload_n C dX7_octet_69 rfl ?_
          refine V_get C dX7_octet_70 fr_7_98 hM rfl ?_
          refine V_iload_n C dX7_octet_73 rfl ?_
          refine V_invS C dX7_octet_74 (m_begins 302 400 0 k (zTxt u) hA.2.1 hl4 (by omega)) ms_7_114 rfl (Nat.le_of_ble_eq_true rfl) ⟨Nat.le_of_ble_eq_true rfl, Nat.le_of_ble_eq_true rfl⟩ ⟨Nat.le_of_ble_eq_true rfl, Nat.le_of_ble_eq_true rfl⟩ (fun _ _ _ h => VT_no h) (fun v ad1 F1 hp => ?_)
          obtain ⟨rfl, rfl, rfl⟩ := hp
          refine V_iload_n C dX7_octet_77 rfl ?_
          refine V_iconst (v := 2) C dX7_octet_78 rfl ?_
          refine V_idiv C dX7_octet_79 (by decide) ?_
          refine V_nm (pk_div (a := x) (d := 2) (by omega) (by decide) (by decide)) ?_
          refine V_iadd C dX7_octet_80 ?_
          refine V_nm (nI_add _ _) ?_
          refine V_iald C dX7_octet_81 h302 rfl (show posL (zTxt u) k + x / 2 < 400 by omega) (by decide) ?_
          refine V_nm gi ?_
          refine V_istore C dX7_octet_82 (by decide) ?_
          refine V_iload_n C dX7_octet_84 rfl ?_
          refine V_iconst (v := 2) C dX7_octet_85 rfl ?_
          refine V_irem C dX7_octet_86 (by decide) ?_
          refine V_nm (pk_rem (a := x) (d := 2) (by omega) (by decide) (by decide)) ?_
          refine V_ifne (tgt := 99) C dX7_octet_87 (by decide) (fun h5 => ?_) (fun h5 => ?_)
          · rw [if_neg (fun e => h5 (by rw [e]; rfl))] at Q
            refine V_iload C dX7_octet_99 rfl ?_
            refine V_sipush (v := 256) C dX7_octet_101 (by decide) ?_
            refine V_irem C dX7_octet_104 (by decide) ?_
            refine V_nm (pk_rem (d := 256) (by omega) (by decide) (by decide)) ?_
            exact V_ireturn C Q dX7_octet_105 rfl (Nat.le_of_ble_eq_true rfl) (Nat.le_of_ble_eq_true rfl) ⟨rfl, rfl, hA, fun c hc => ⟨rfl, hfrA c (by omega)⟩⟩
          · rw [if_pos ((nI_eq (b := 0) (by omega) (by decide)).mp h5)] at Q
            refine V_iload C dX7_octet_90 rfl ?_
            refine V_sipush (v := 256) C dX7_octet_92 (by decide) ?_
            refine V_idiv C dX7_octet_95 (by decide) ?_
            refine V_nm (pk_div (d := 256) (by omega) (by decide) (by decide)) ?_
            refine V_goto (tgt := 105) C dX7_octet_96 (by decide) ?_
            exact V_ireturn C Q dX7_octet_105 rfl (Nat.le_of_ble_eq_true rfl) (Nat.le_of_ble_eq_true rfl) ⟨rfl, rfl, hA, fun c hc => ⟨rfl, hfrA c (by omega)⟩⟩
