/-! ===== the model: time passes ===== -/
abbrev tkT (w : St) (j : Nat) : St := sTk w (va_up (zTk w) j (if zTk w j < 5 then zTk w j + 1 else zTk w j))
theorem lk_sdQ (w : St) (j : Nat) : lkQ w j = sdQ (tkT w j) j := by
  unfold lkQ sdQ
  rw [show zTk (tkT w j) j = (if zTk w j < 5 then zTk w j + 1 else zTk w j) from up_s]
  rfl
theorem lk_sdW (w : St) (j : Nat) : lkS w j = sdW (tkT w j) j (sdQ (tkT w j) j).1 := by
  unfold lkS sdW
  rw [lk_sdQ, show va_up (zTk (tkT w j)) j (sdQ (tkT w j) j).1.2.2 = va_up (zTk w) j (sdQ (tkT w j) j).1.2.2 from bx_uu _ _ _ _]
theorem inv_tk {w : St} {j t : Nat} (hI : Inv w) (ht : t ≤ 5) : Inv (sTk w (va_up (zTk w) j t)) := by
  obtain ⟨i1, i2, i3, i4, i5, i6, i7, i8, i9, i10⟩ := hI
  refine ⟨i1, i2, i3, i4, i5, i6, fun k hk => ?_, i8, i9, i10⟩
  obtain ⟨j1, j2, j3, j4, j5⟩ := i7 k hk
  refine ⟨j1, j2, j3, ?_, j5⟩
  show va_up (zTk w) j t k ≤ 5
  by_cases e : k = j
  · rw [e, up_s]; exact ht
  · rw [up_n e]; exact j4
theorem exp_yes {s : St} {i : Nat} (h : zSt (expN s i) i = 0 ∧ zEn (expN s i) i ≤ zNow (expN s i)) : expN s (i + 1) = finS (expN s i) i 3 := by
  conv => lhs; unfold expN
  rw [if_pos h]
theorem exp_no {s : St} {i : Nat} (h : ¬ (zSt (expN s i) i = 0 ∧ zEn (expN s i) i ≤ zNow (expN s i))) : expN s (i + 1) = expN s i := by
  conv => lhs; unfold expN
  rw [if_neg h]
set_option maxHeartbeats 400000 in
set_option maxRecDepth 100000 in
/-- pass -/
theorem m_pass {l : Launch} {D : Dx} {b0 : Nat} {ad : Nat → Nat} {F : Fn} (u : St) (th : Int32) (a : Int32) (hM0 : MRep D ad F u th) (hI : Inv u) (hb : zNow u ≤ 190000) : Ct l D b0 yX7_pass (wsA yX7_pass cX7_pass 5 (some .int)) (rK 2) [.ref (ad 300), .int a] ad F (PoM D ad F (spPass u a)) noX := by
  refine Ct.of (by decide +kernel) (by simp [Value.category]) (Nat.le_of_ble_eq_true rfl) (fun X eD eb el C Q => ?_)
  subst eD; subst eb; subst el
  have hO := hM0.1
  have hM := hO
  unfold mObj at hM
  refine V_aload_n C dX7_pass_0 rfl ?_
  refine V_iload_n C dX7_pass_1 rfl ?_
  refine V_iconst (v := 1) C dX7_pass_2 rfl ?_
  refine V_sipush (v := 200) C dX7_pass_3 (by decide) ?_
  refine V_invS C dX7_pass_6 (m_isIn a 1 200) ms_7_94 rfl (Nat.le_of_ble_eq_true rfl) ⟨Nat.le_of_ble_eq_true rfl, Nat.le_of_ble_eq_true rfl⟩ ⟨Nat.le_of_ble_eq_true rfl, Nat.le_of_ble_eq_true rfl⟩ (fun _ _ _ h => VT_no h) (fun v ad1 F1 hp => ?_)
  obtain ⟨rfl, rfl, rfl⟩ := hp
  refine V_ifeq (tgt := 16) C dX7_pass_9 (by decide) (fun h1 => ?_) (fun h1 => ?_)
  · rw [show spPass u a = (1, 0, u) from if_pos (isB_0 h1)] at Q
    refine V_iconst (v := 1) C dX7_pass_16 rfl ?_
    refine V_invV C dX7_pass_17 hM rfl (m_fails _ _ _ _ _ _ hO) mv_7_101 rfl (Nat.le_of_ble_eq_true rfl) ⟨Nat.le_of_ble_eq_true rfl, Nat.le_of_ble_eq_true rfl⟩ ⟨Nat.le_of_ble_eq_true rfl, Nat.le_of_ble_eq_true rfl⟩ (fun _ _ _ h => VT_no h) (fun v ad1 F1 hp => ?_)
    obtain ⟨rfl, rfl, hO1, hfr⟩ := hp
    refine V_ifeq_f (tgt := 25) C dX7_pass_20 (by decide) (by decide) ?_
    refine V_iconst (v := 0) C dX7_pass_23 rfl ?_
    exact V_ireturn C Q dX7_pass_24 rfl (Nat.le_of_ble_eq_true rfl) (Nat.le_of_ble_eq_true rfl) ⟨rfl, rfl, hM0.th hO1 hfr, fun c hc => ⟨rfl, hfr c (by omega)⟩⟩
  · have i1 := isB_1 h1
    obtain ⟨k, hk, rfl⟩ := nI_of2 (n := 200) (M := 200) rfl (fun h => i1.1 (Int32.lt_trans h (by decide))) (Int32.not_lt.mp i1.2)
    have ek : (nI k).toNatClampNeg = k := nI_clamp (by omega)
    rw [show spPass u (nI k) = (0, nI (pasN u k).2, (pasN u k).1) by unfold spPass; rw [if_neg (fun h => h.elim i1.1 i1.2), ek]] at Q
    refine V_iconst (v := 0) C dX7_pass_12 rfl ?_
    refine V_goto (tgt := 17) C dX7_pass_13 (by decide) ?_
    refine V_invV C dX7_pass_17 hM rfl (m_fails _ _ _ _ _ _ hO) mv_7_101 rfl (Nat.le_of_ble_eq_true rfl) ⟨Nat.le_of_ble_eq_true rfl, Nat.le_of_ble_eq_true rfl⟩ ⟨Nat.le_of_ble_eq_true rfl, Nat.le_of_ble_eq_true rfl⟩ (fun _ _ _ h => VT_no h) (fun v ad1 F1 hp => ?_)
    obtain ⟨rfl, rfl, hO1, hfr⟩ := hp
    have hA : MRep (xD X) ad F1 u 0 := hM0.th hO1 hfr
    have hfrA := hfr
    have hM := hO1
    unfold mObj at hM
    refine V_ifeq_t (tgt := 25) C dX7_pass_20 (by decide) (by decide) ?_
    refine V_iconst (v := 0) C dX7_pass_25 rfl ?_
    refine V_istore_n C dX7_pass_26 (by decide) ?_
    refine V_iconst (v := 0) C dX7_pass_27 rfl ?_
    refine V_istore_n C dX7_pass_28 (by decide) ?_
    have loop : ∀ (d i : Nat) (G : Fn), i + d = k → MRep (xD X) ad G (pasN u i).1 0 → (∀ c, (c < 300 ∨ 400 ≤ c) → G c = F c) →
        V X 0 0 29 [(0, .ref (ad 300)), (1, .int (nI k)), (2, .int (nI (pasN u i).2)), (3, .int (nI i))] [] ad G := by
      intro d
      induction d with
      | zero =>
        intro i G hd hR hfM
        have hi : i = k := by omega
        subst hi
        refine V_iload_n C dX7_pass_29 rfl ?_
        refine V_iload_n C dX7_pass_30 rfl ?_
        refine V_icmpge_t (tgt := 149) C dX7_pass_31 (by decide) (Int32.le_refl _) ?_
        refine V_iload_n C dX7_pass_149 rfl ?_
        exact V_ireturn C Q dX7_pass_150 rfl (Nat.le_of_ble_eq_true rfl) (Nat.le_of_ble_eq_true rfl) ⟨rfl, rfl, hR, fun c hc => ⟨rfl, hfM c hc⟩⟩
      | succ d ih =>
        intro i G hd hR hfM
        have hI0 := inv_pas hI i (by omega)
        have hn0 := pas_now u i
        obtain ⟨v0, ev0⟩ : ∃ v0, v0 = (pasN u i).1 := ⟨_, rfl⟩
        obtain ⟨c0, ec0⟩ : ∃ c0, c0 = (pasN u i).2 := ⟨_, rfl⟩
        have es1 : (pasN u (i + 1)).1 = (tickS v0).1 := by rw [ev0]; rfl
        have es2 : (pasN u (i + 1)).2 = c0 + (tickS v0).2 := by rw [ev0, ec0]; rfl
        rw [← ev0] at hR hI0 hn0
        rw [← ec0]
        have hM := hR.1
        unfold mObj at hM
        have hI1 : Inv (sNow v0 (zNow v0 + 1)) := inv_now hI0 (Nat.le_succ _) (by omega)
        have links : ∀ (dj j : Nat) (H : Fn), j + dj = 3 → MRep (xD X) ad H (lksN (expN (sNow v0 (zNow v0 + 1)) (zMc v0)) j).1 0 → (∀ c, (c < 300 ∨ 400 ≤ c) → H c = F c) → V X 0 0 96 [(0, .ref (ad 300)), (1, .int (nI k)), (2, .int (nI (c0 + (lksN (expN (sNow v0 (zNow v0 + 1)) (zMc v0)) j).2))), (3, .int (nI i)), (4, .int (nI j))] [] ad H := by
          intro dj
          induction dj with
          | zero =>
            intro j H hdj hRj hfj
            have hj : j = 3 := by omega
            subst hj
            refine V_iload C dX7_pass_96 rfl ?_
            refine V_iconst (v := 3) C dX7_pass_98 rfl ?_
            refine V_icmpge_t (tgt := 143) C dX7_pass_99 (by decide) (by decide) ?_
            refine V_iinc C dX7_pass_143 rfl (nI_inc _) (by decide) ?_
            refine V_goto (tgt := 29) C dX7_pass_146 (by decide) ?_
            exact V_sb (ih (i + 1) H (by omega) (by rw [es1]; exact hRj) hfj) ⟨rfl, rfl, by rw [es2]; rfl, rfl, trivial⟩
          | succ dj ihj =>
            intro j H hdj hRj hfj
            have hIj : Inv (lksN (expN (sNow v0 (zNow v0 + 1)) (zMc v0)) j).1 := inv_lks (inv_exp hI1 _ (Nat.le_refl _)) j (by omega)
            have en : (lksN (expN (sNow v0 (zNow v0 + 1)) (zMc v0)) (j + 1)).2 = (lksN (expN (sNow v0 (zNow v0 + 1)) (zMc v0)) j).2 + (lkQ (lksN (expN (sNow v0 (zNow v0 + 1)) (zMc v0)) j).1 j).2 := rfl
            have ew : (lksN (expN (sNow v0 (zNow v0 + 1)) (zMc v0)) (j + 1)).1 = lkS (lksN (expN (sNow v0 (zNow v0 + 1)) (zMc v0)) j).1 j := rfl
            obtain ⟨w, hw⟩ : ∃ w, w = (lksN (expN (sNow v0 (zNow v0 + 1)) (zMc v0)) j).1 := ⟨_, rfl⟩
            obtain ⟨n0, hn0⟩ : ∃ n0, n0 = (lksN (expN (sNow v0 (zNow v0 + 1)) (zMc v0)) j).2 := ⟨_, rfl⟩
            rw [← hw] at hRj hIj en ew
            rw [← hn0] at en ⊢
            have hM := hRj.1
            unfold mObj at hM
            obtain ⟨f320, h320, g320⟩ := hRj.2.2.2.2.2.2.2.2.2.2.2.2.2.2.2.2.2.2.1
            have ht5 := (hIj.2.2.2.2.2.2.1 j (by omega)).2.2.2.1
            have aft : ∀ (tt : Nat) (v : Int32), tt = (if zTk w j < 5 then zTk w j + 1 else zTk w j) → v = nI tt → V X 0 0 127 [(0, .ref (ad 300)), (1, .int (nI k)), (2, .int (nI (c0 + n0))), (3, .int (nI i)), (4, .int (nI j))] [.int v, .int (nI j), .ref (ad 320)] ad H := by
              intro tt v htt hv
              subst hv
              refine G_iast C dX7_pass_127 h320 rfl (show j < 3 by omega) (by decide) (fun H1 h320 hfr => ?_)
              have hM := (hfr _ (by omega)).trans hM
              have hz := hRj.tk (tk := va_up (zTk w) j tt) ⟨_, h320, upd_va g320⟩ hfr
              have hIt : Inv (sTk w (va_up (zTk w) j tt)) := inv_tk hIj (by rw [htt]; split <;> omega)
              refine V_iload_n C dX7_pass_128 rfl ?_
              refine V_aload_n C dX7_pass_129 rfl ?_
              refine V_iload C dX7_pass_130 rfl ?_
              refine V_invV C dX7_pass_132 hM rfl (m_sends _ 0 j hz hIt (by omega)) mv_7_153 rfl (Nat.le_of_ble_eq_true rfl) ⟨Nat.le_of_ble_eq_true rfl, Nat.le_of_ble_eq_true rfl⟩ ⟨Nat.le_of_ble_eq_true rfl, Nat.le_of_ble_eq_true rfl⟩ (fun _ _ _ h => VT_no h) (fun v ad1 H2 hp => ?_)
              obtain ⟨rfl, rfl, hz2, hfM2⟩ := hp
              refine V_iadd C dX7_pass_135 ?_
              refine V_nm (nI_add _ _) ?_
              refine V_istore_n C dX7_pass_136 (by decide) ?_
              refine V_iinc C dX7_pass_137 rfl (nI_inc _) (by decide) ?_
              refine V_goto (tgt := 96) C dX7_pass_140 (by decide) ?_
              rw [htt] at hz2
              rw [htt]
              rw [show sTk w (va_up (zTk w) j (if zTk w j < 5 then zTk w j + 1 else zTk w j)) = tkT w j from rfl, ← lk_sdW] at hz2
              rw [show sTk w (va_up (zTk w) j (if zTk w j < 5 then zTk w j + 1 else zTk w j)) = tkT w j from rfl, ← lk_sdQ]
              exact V_sb (ihj (j + 1) H2 (by omega) (by rw [ew]; exact hz2) (fun c hc => ((hfM2 c hc).2.trans (hfr c (by omega))).trans (hfj c hc))) ⟨rfl, rfl, by rw [en, ← Nat.add_assoc]; rfl, rfl, rfl, trivial⟩
            refine V_iload C dX7_pass_96 rfl ?_
            refine V_iconst (v := 3) C dX7_pass_98 rfl ?_
            refine V_icmpge_f (tgt := 143) C dX7_pass_99 (by decide) (nI_ge (a := j) (b := 3) (by omega) (by decide)) ?_
            refine V_aload_n C dX7_pass_102 rfl ?_
            refine V_get C dX7_pass_103 fr_7_59 hM rfl ?_
            refine V_iload C dX7_pass_106 rfl ?_
            refine V_dup2 C dX7_pass_108 rfl rfl ?_
            refine V_iald C dX7_pass_109 h320 rfl (show j < 3 by omega) (by decide) ?_
            refine V_nm (g320 j (by omega)) ?_
            refine V_aload_n C dX7_pass_110 rfl ?_
            refine V_get C dX7_pass_111 fr_7_59 hM rfl ?_
            refine V_iload C dX7_pass_114 rfl ?_
            refine V_iald C dX7_pass_116 h320 rfl (show j < 3 by omega) (by decide) ?_
            refine V_nm (g320 j (by omega)) ?_
            refine V_iconst (v := 5) C dX7_pass_117 rfl ?_
            refine V_icmpge (tgt := 125) C dX7_pass_118 (by decide) (fun h2 => ?_) (fun h2 => ?_)
            · refine V_iconst (v := 0) C dX7_pass_125 rfl ?_
              refine V_iadd C dX7_pass_126 ?_
              exact V_sb (aft (zTk w j) _ (if_neg (fun h => nI_ge (a := zTk w j) (b := 5) h (by decide) h2)).symm (by rw [Int32.add_zero])) ⟨rfl, rfl, rfl, rfl, rfl, trivial⟩
            · refine V_iconst (v := 1) C dX7_pass_121 rfl ?_
              refine V_goto (tgt := 126) C dX7_pass_122 (by decide) ?_
              refine V_iadd C dX7_pass_126 ?_
              exact V_sb (aft (zTk w j + 1) _ (if_pos (Nat.lt_of_not_le (fun h => h2 (nI_le (a := 5) h (by omega))))).symm (nI_1 _)) ⟨rfl, rfl, rfl, rfl, rfl, trivial⟩
        have exps : ∀ (dj j : Nat) (H : Fn), j + dj = zMc v0 → MRep (xD X) ad H (expN (sNow v0 (zNow v0 + 1)) j) 0 → (∀ c, (c < 300 ∨ 400 ≤ c) → H c = F c) → V X 0 0 47 [(0, .ref (ad 300)), (1, .int (nI k)), (2, .int (nI c0)), (3, .int (nI i)), (4, .int (nI j))] [] ad H := by
          intro dj
          induction dj with
          | zero =>
            intro j H hdj hRj hfj
            have hj : j = zMc v0 := by omega
            subst hj
            have ex := expN_now (sNow v0 (zNow v0 + 1)) (zMc v0)
            have hM := hRj.1
            unfold mObj at hM
            refine V_iload C dX7_pass_47 rfl ?_
            refine V_aload_n C dX7_pass_49 rfl ?_
            refine V_get C dX7_pass_50 fr_7_124 hM rfl ?_
            rw [ex.2]
            refine V_icmpge_t (tgt := 93) C dX7_pass_53 (by decide) (Int32.le_refl _) ?_
            refine V_iconst (v := 0) C dX7_pass_93 rfl ?_
            refine V_istore C dX7_pass_94 (by decide) ?_
            exact V_sb (links 3 0 H rfl hRj hfj) ⟨rfl, rfl, rfl, rfl, rfl, trivial⟩
          | succ dj ihj =>
            intro j H hdj hRj hfj
            have hIj : Inv (expN (sNow v0 (zNow v0 + 1)) j) := inv_exp hI1 j (by show j ≤ zMc v0; omega)
            have ex := expN_now (sNow v0 (zNow v0 + 1)) j
            have hjm : j < zMc (expN (sNow v0 (zNow v0 + 1)) j) := by rw [ex.2]; show j < zMc v0; omega
            have hyes := exp_yes (s := sNow v0 (zNow v0 + 1)) (i := j)
            have hno := exp_no (s := sNow v0 (zNow v0 + 1)) (i := j)
            obtain ⟨w, hw⟩ : ∃ w, w = expN (sNow v0 (zNow v0 + 1)) j := ⟨_, rfl⟩
            rw [← hw] at hRj hIj hjm hyes hno ex
            have hmc20 := hIj.2.1
            have hmj := hIj.2.2.2.2.2.1 j hjm
            have hnw := hIj.1
            have hM := hRj.1
            unfold mObj at hM
            obtain ⟨f308, h308, g308⟩ := hRj.2.2.2.2.2.2.2.1
            obtain ⟨f307, h307, g307⟩ := hRj.2.2.2.2.2.2.1
            have skip : ¬ (zSt w j = 0 ∧ zEn w j ≤ zNow w) → V X 0 0 87 [(0, .ref (ad 300)), (1, .int (nI k)), (2, .int (nI c0)), (3, .int (nI i)), (4, .int (nI j))] [] ad H := by
              intro hs
              refine V_iinc C dX7_pass_87 rfl (nI_inc _) (by decide) ?_
              refine V_goto (tgt := 47) C dX7_pass_90 (by decide) ?_
              exact V_sb (ihj (j + 1) H (by omega) (by rw [hno hs]; exact hRj) hfj) ⟨rfl, rfl, rfl, rfl, rfl, trivial⟩
            refine V_iload C dX7_pass_47 rfl ?_
            refine V_aload_n C dX7_pass_49 rfl ?_
            refine V_get C dX7_pass_50 fr_7_124 hM rfl ?_
            refine V_icmpge_f (tgt := 93) C dX7_pass_53 (by decide) (nI_ge hjm (by omega)) ?_
            refine V_aload_n C dX7_pass_56 rfl ?_
            refine V_get C dX7_pass_57 fr_7_25 hM rfl ?_
            refine V_iload C dX7_pass_60 rfl ?_
            refine V_iald C dX7_pass_62 h308 rfl (show j < 20 by omega) (by decide) ?_
            refine V_nm ((g308 j (by omega)).trans (if_pos hjm)) ?_
            refine V_ifne (tgt := 87) C dX7_pass_63 (by decide) (fun h2 => ?_) (fun h2 => ?_)
            · exact V_sb (skip (fun h => h2 (by rw [h.1]; rfl))) ⟨rfl, rfl, rfl, rfl, rfl, trivial⟩
            · have hst : zSt w j = 0 := (nI_eq (b := 0) (by omega) (by decide)).mp h2
              refine V_aload_n C dX7_pass_66 rfl ?_
              refine V_get C dX7_pass_67 fr_7_127 hM rfl ?_
              refine V_aload_n C dX7_pass_70 rfl ?_
              refine V_get C dX7_pass_71 fr_7_22 hM rfl ?_
              refine V_iload C dX7_pass_74 rfl ?_
              refine V_iald C dX7_pass_76 h307 rfl (show j < 20 by omega) (by decide) ?_
              refine V_nm (g307 j hjm) ?_
              refine V_icmplt (tgt := 87) C dX7_pass_77 (by decide) (fun h3 => ?_) (fun h3 => ?_)
              · exact V_sb (skip (fun h => nI_nlt (a := zNow w) (b := zEn w j) h.2 (by omega) h3)) ⟨rfl, rfl, rfl, rfl, rfl, trivial⟩
              · refine V_aload_n C dX7_pass_80 rfl ?_
                refine V_iload C dX7_pass_81 rfl ?_
                refine V_iconst (v := 3) C dX7_pass_83 rfl ?_
                refine V_nm (show (3 : Int32) = nI 3 from rfl) ?_
                refine V_invV C dX7_pass_84 hM rfl (m_ends w 0 j 3 hRj hIj hjm hst (by decide)) mv_7_149 rfl (Nat.le_of_ble_eq_true rfl) ⟨Nat.le_of_ble_eq_true rfl, Nat.le_of_ble_eq_true rfl⟩ ⟨Nat.le_of_ble_eq_true rfl, Nat.le_of_ble_eq_true rfl⟩ (fun _ _ _ h => VT_no h) (fun v ad1 H1 hp => ?_)
                obtain ⟨rfl, rfl, hz, hfM2⟩ := hp
                refine V_iinc C dX7_pass_87 rfl (nI_inc _) (by decide) ?_
                refine V_goto (tgt := 47) C dX7_pass_90 (by decide) ?_
                exact V_sb (ihj (j + 1) H1 (by omega) (by rw [hyes ⟨hst, Nat.le_of_not_lt (fun h => h3 (nI_lt h (by omega)))⟩]; exact hz) (fun c hc => (hfM2 c hc).2.trans (hfj c hc))) ⟨rfl, rfl, rfl, rfl, rfl, trivial⟩
        refine V_iload_n C dX7_pass_29 rfl ?_
        refine V_iload_n C dX7_pass_30 rfl ?_
        refine V_icmpge_f (tgt := 149) C dX7_pass_31 (by decide) (nI_ge (by omega) (by omega)) ?_
        refine V_aload_n C dX7_pass_34 rfl ?_
        refine V_dup C dX7_pass_35 rfl ?_
        refine V_get C dX7_pass_36 fr_7_127 hM rfl ?_
        refine V_iconst (v := 1) C dX7_pass_39 rfl ?_
        refine V_iadd C dX7_pass_40 ?_
        refine V_nm (nI_1 _) ?_
        refine G_put C dX7_pass_41 fp_7_127 hM rfl rfl (Nat.le_of_ble_eq_true rfl) (fun H0 hM hfr => ?_)
        dsimp only [List.set] at hM
        refine V_iconst (v := 0) C dX7_pass_44 rfl ?_
        refine V_istore C dX7_pass_45 (by decide) ?_
        exact V_sb (exps (zMc v0) 0 H0 (Nat.zero_add _) (hR.nw hM hfr) (fun c hc => (hfr c (by omega)).trans (hfM c hc))) ⟨rfl, rfl, rfl, rfl, rfl, trivial⟩
    exact V_sb (loop k 0 F1 (Nat.zero_add _) hA (fun c hc => hfrA c (by omega))) ⟨rfl, rfl, rfl, rfl, trivial⟩
