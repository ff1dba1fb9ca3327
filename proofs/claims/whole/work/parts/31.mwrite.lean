/-! ===== the model: write, keywords, incoming texts ===== -/
theorem MRep.tx {D : Dx} {ad : Nat → Nat} {F G : Fn} {u : St} {th a : Int32} {L : List Nat} (h : MRep D ad F u th) (hO1 : mObj ad G (zNow u) L.length (zMc u) (zRcp u).length a) (hR : RwA D G 302 400 0 L) (hK : ∀ x, x ∉ [300, 302] → G x = F x) : MRep D ad G (sTxt u L) a := by
  obtain ⟨k0, k1, k2, k3, k4, k5, k6, k7, k8, k9, k10, k11, k12, k13, k14, k15, k16, k17, k18, k19, k20, k21, k22⟩ := h
  exact ⟨hO1, hR, fun m hm => (k2 m hm).kept (hK _ (by decide)), k3.imp fun f hf => (hK _ (by decide)).trans hf, k4.kept (hK _ (by decide)), k5.kept (hK _ (by decide)), k6.kept (hK _ (by decide)), k7.kept (hK _ (by decide)), k8.kept (hK _ (by decide)), k9.kept (hK _ (by decide)), k10.kept (hK _ (by decide)), k11.kept (hK _ (by decide)), k12.kept (hK _ (by decide)), k13.kept (hK _ (by decide)), k14.kept (hK _ (by decide)), k15.kept (hK _ (by decide)), k16.kept (hK _ (by decide)), k17.kept (hK _ (by decide)), k18.kept (hK _ (by decide)), k19.kept (hK _ (by decide)), k20.kept (hK _ (by decide)), k21.kept (hK _ (by decide)), k22.kept (hK _ (by decide))⟩
theorem app_getD {L : List Nat} {y i j : Nat} (h : j < L.length + i + 1) : (L ++ List.replicate (i + 1) y).getD j 0 = if j = L.length + i then y else (L ++ List.replicate i y).getD j 0 := by
  rw [List.getD_eq_getElem?_getD, List.getD_eq_getElem?_getD]
  by_cases h1 : j < L.length
  · rw [List.getElem?_append_left h1, List.getElem?_append_left h1, if_neg (by omega)]
  · rw [List.getElem?_append_right (by omega), List.getElem?_append_right (by omega), List.getElem?_replicate, List.getElem?_replicate, if_pos (by omega)]
    by_cases h2 : j = L.length + i
    · rw [if_pos h2]; rfl
    · rw [if_neg h2, if_pos (by omega)]
set_option maxHeartbeats 400000 in
set_option maxRecDepth 100000 in
/-- write -/
theorem m_write {l : Launch} {D : Dx} {b0 : Nat} {ad : Nat → Nat} {F : Fn} (u : St) (th : Int32) (a b : Int32) (hM0 : MRep D ad F u th) (hI : Inv u) : Ct l D b0 yX7_write (wsA yX7_write cX7_write 5 (some .int)) (rK 1) [.ref (ad 300), .int a, .int b] ad F (PoM D ad F (spWrite u a b)) noX := by
  refine Ct.of (by decide +kernel) (by simp [Value.category]) (Nat.le_of_ble_eq_true rfl) (fun X eD eb el C Q => ?_)
  subst eD; subst eb; subst el
  have hO := hM0.1
  have hM := hO
  unfold mObj at hM
  have hl4 := hI.2.2.1
  have hxs := hI.2.2.2.1
  refine V_iload_n C dX7_write_0 rfl ?_
  refine V_iconst (v := 0) C dX7_write_1 rfl ?_
  refine V_sipush (v := 999) C dX7_write_2 (by decide) ?_
  refine V_invS C dX7_write_5 (m_isIn a 0 999) ms_7_94 rfl (Nat.le_of_ble_eq_true rfl) ⟨Nat.le_of_ble_eq_true rfl, Nat.le_of_ble_eq_true rfl⟩ ⟨Nat.le_of_ble_eq_true rfl, Nat.le_of_ble_eq_true rfl⟩ (fun _ _ _ h => VT_no h) (fun v ad1 F1 hp => ?_)
  obtain ⟨rfl, rfl, rfl⟩ := hp
  refine V_ifeq (tgt := 26) C dX7_write_8 (by decide) (fun h1 => ?_) (fun h1 => ?_)
  · refine V_iconst (v := 0) C dX7_write_26 rfl ?_
    refine V_istore_n C dX7_write_27 (by decide) ?_
    refine V_aload_n C dX7_write_28 rfl ?_
    refine V_iload_n C dX7_write_29 rfl ?_
    refine V_ifne_f (tgt := 37) C dX7_write_30 (by decide) rfl ?_
    rw [show spWrite u a b = (1, 0, u) from if_pos ((isB_0 h1).elim Or.inl (fun h => Or.inr (Or.inl h)))] at Q
    refine V_iconst (v := 1) C dX7_write_33 rfl ?_
    refine V_goto (tgt := 54) C dX7_write_34 (by decide) ?_
    refine V_invV C dX7_write_54 hM rfl (m_fails _ _ _ _ _ _ hO) mv_7_101 rfl (Nat.le_of_ble_eq_true rfl) ⟨Nat.le_of_ble_eq_true rfl, Nat.le_of_ble_eq_true rfl⟩ ⟨Nat.le_of_ble_eq_true rfl, Nat.le_of_ble_eq_true rfl⟩ (fun _ _ _ h => VT_no h) (fun v ad1 F1 hp => ?_)
    obtain ⟨rfl, rfl, hO1, hfr⟩ := hp
    refine V_ifeq_f (tgt := 62) C dX7_write_57 (by decide) (by decide) ?_
    refine V_iconst (v := 0) C dX7_write_60 rfl ?_
    exact V_ireturn C Q dX7_write_61 rfl (Nat.le_of_ble_eq_true rfl) (Nat.le_of_ble_eq_true rfl) ⟨rfl, rfl, hM0.th hO1 hfr, fun c hc => ⟨rfl, hfr c (by omega)⟩⟩
  · refine V_iload_n C dX7_write_11 rfl ?_
    refine V_iconst (v := 1) C dX7_write_12 rfl ?_
    refine V_sipush (v := 200) C dX7_write_13 (by decide) ?_
    refine V_invS C dX7_write_16 (m_isIn b 1 200) ms_7_94 rfl (Nat.le_of_ble_eq_true rfl) ⟨Nat.le_of_ble_eq_true rfl, Nat.le_of_ble_eq_true rfl⟩ ⟨Nat.le_of_ble_eq_true rfl, Nat.le_of_ble_eq_true rfl⟩ (fun _ _ _ h => VT_no h) (fun v ad1 F1 hp => ?_)
    obtain ⟨rfl, rfl, rfl⟩ := hp
    refine V_ifeq (tgt := 26) C dX7_write_19 (by decide) (fun h2 => ?_) (fun h2 => ?_)
    · refine V_iconst (v := 0) C dX7_write_26 rfl ?_
      refine V_istore_n C dX7_write_27 (by decide) ?_
      refine V_aload_n C dX7_write_28 rfl ?_
      refine V_iload_n C dX7_write_29 rfl ?_
      refine V_ifne_f (tgt := 37) C dX7_write_30 (by decide) rfl ?_
      rw [show spWrite u a b = (1, 0, u) from if_pos (Or.inr (Or.inr (isB_0 h2)))] at Q
      refine V_iconst (v := 1) C dX7_write_33 rfl ?_
      refine V_goto (tgt := 54) C dX7_write_34 (by decide) ?_
      refine V_invV C dX7_write_54 hM rfl (m_fails _ _ _ _ _ _ hO) mv_7_101 rfl (Nat.le_of_ble_eq_true rfl) ⟨Nat.le_of_ble_eq_true rfl, Nat.le_of_ble_eq_true rfl⟩ ⟨Nat.le_of_ble_eq_true rfl, Nat.le_of_ble_eq_true rfl⟩ (fun _ _ _ h => VT_no h) (fun v ad1 F1 hp => ?_)
      obtain ⟨rfl, rfl, hO1, hfr⟩ := hp
      refine V_ifeq_f (tgt := 62) C dX7_write_57 (by decide) (by decide) ?_
      refine V_iconst (v := 0) C dX7_write_60 rfl ?_
      exact V_ireturn C Q dX7_write_61 rfl (Nat.le_of_ble_eq_true rfl) (Nat.le_of_ble_eq_true rfl) ⟨rfl, rfl, hM0.th hO1 hfr, fun c hc => ⟨rfl, hfr c (by omega)⟩⟩
    · have i1 := isB_1 h1
      have i2 := isB_1 h2
      have hbad : ¬ (a < 0 ∨ 999 < a ∨ b < 1 ∨ 200 < b) := by
        rintro (h | h | h | h)
        · exact i1.1 h
        · exact i1.2 h
        · exact i2.1 h
        · exact i2.2 h
      obtain ⟨v, hv, rfl⟩ := nI_of2 (n := 999) (M := 999) rfl i1.1 (Int32.not_lt.mp i1.2)
      obtain ⟨k, hk, rfl⟩ := nI_of2 (n := 200) (M := 200) rfl (fun h => i2.1 (Int32.lt_trans h (by decide))) (Int32.not_lt.mp i2.2)
      have ev : (nI v).toNatClampNeg = v := nI_clamp (by omega)
      have ek : (nI k).toNatClampNeg = k := nI_clamp (by omega)
      have eo : spWrite u (nI v) (nI k) = if 400 < (zTxt u).length + k then (2, 0, u) else (0, nI ((zTxt u).length + k), sTxt u (zTxt u ++ List.replicate k v)) := by unfold spWrite; rw [if_neg hbad, ev, ek]
      rw [eo] at Q
      refine V_iconst (v := 1) C dX7_write_22 rfl ?_
      refine V_goto (tgt := 27) C dX7_write_23 (by decide) ?_
      refine V_istore_n C dX7_write_27 (by decide) ?_
      refine V_aload_n C dX7_write_28 rfl ?_
      refine V_iload_n C dX7_write_29 rfl ?_
      refine V_ifne_t (tgt := 37) C dX7_write_30 (by decide) (by decide) ?_
      refine V_aload_n C dX7_write_37 rfl ?_
      refine V_get C dX7_write_38 fr_7_98 hM rfl ?_
      refine V_iload_n C dX7_write_41 rfl ?_
      refine V_iadd C dX7_write_42 ?_
      refine V_nm (nI_add _ _) ?_
      refine V_sipush (v := 400) C dX7_write_43 (by decide) ?_
      refine V_icmple (tgt := 53) C dX7_write_46 (by decide) (fun h3 => ?_) (fun h3 => ?_)
      · have hle : (zTxt u).length + k ≤ 400 := (nI_leI (b := 400) (by omega) (by decide)).mp h3
        rw [if_neg (Nat.not_lt.mpr hle)] at Q
        refine V_iconst (v := 0) C dX7_write_53 rfl ?_
        refine V_invV C dX7_write_54 hM rfl (m_fails _ _ _ _ _ _ hO) mv_7_101 rfl (Nat.le_of_ble_eq_true rfl) ⟨Nat.le_of_ble_eq_true rfl, Nat.le_of_ble_eq_true rfl⟩ ⟨Nat.le_of_ble_eq_true rfl, Nat.le_of_ble_eq_true rfl⟩ (fun _ _ _ h => VT_no h) (fun v ad1 F1 hp => ?_)
        obtain ⟨rfl, rfl, hO1, hfr⟩ := hp
        have hA : MRep (xD X) ad F1 u 0 := hM0.th hO1 hfr
        have hfrA := hfr
        have hM := hO1
        unfold mObj at hM
        refine V_ifeq_t (tgt := 62) C dX7_write_57 (by decide) (by decide) ?_
        have r302 := hA.2.1
        obtain ⟨f302, h302, g302⟩ := r302.2.2.2
        refine V_iconst (v := 0) C dX7_write_62 rfl ?_
        refine V_istore C dX7_write_63 (by decide) ?_
        have loop : ∀ (d i : Nat) (G : Fn) (f : Nat → Int32), i + d = k → mObj ad G (zNow u) ((zTxt u).length + i) (zMc u) (zRcp u).length 0 → G 302 = some (aI (xD X) 400 f) → (∀ j, j < (zTxt u).length + i → f j = nI ((zTxt u ++ List.replicate i v).getD j 0)) → (∀ x, x ∉ [300, 302] → G x = F1 x) →
            V X 0 0 65 [(0, .ref (ad 300)), (1, .int (nI v)), (2, .int (nI k)), (4, .int (nI i))] [] ad G := by
          intro d
          induction d with
          | zero =>
            intro i G f hd hO2 h302 hf hK
            have hi : i = k := by omega
            subst hi
            have hM := hO2
            unfold mObj at hM
            refine V_iload C dX7_write_65 rfl ?_
            refine V_iload_n C dX7_write_67 rfl ?_
            refine V_icmpge_t (tgt := 97) C dX7_write_68 (by decide) (Int32.le_refl _) ?_
            refine V_aload_n C dX7_write_97 rfl ?_
            refine V_get C dX7_write_98 fr_7_98 hM rfl ?_
            refine V_ireturn C Q dX7_write_101 rfl (Nat.le_of_ble_eq_true rfl) (Nat.le_of_ble_eq_true rfl) ⟨rfl, rfl, hA.tx (by rw [List.length_append, List.length_replicate]; exact hO2) ⟨by decide, by rw [List.length_append, List.length_replicate]; omega, fun x hx => ?_, f, h302, fun j hj => ?_⟩ hK, fun c hc => ⟨rfl, (hK c (by simp; omega)).trans (hfrA c (by omega))⟩⟩
            · rcases List.mem_append.mp hx with h | h
              · exact hxs x h
              · rw [(List.mem_replicate.mp h).2]; omega
            · rw [List.length_append, List.length_replicate] at hj
              rw [Nat.zero_add]
              exact hf j hj
          | succ d ih =>
            intro i G f hd hO2 h302 hf hK
            have hM := hO2
            unfold mObj at hM
            refine V_iload C dX7_write_65 rfl ?_
            refine V_iload_n C dX7_write_67 rfl ?_
            refine V_icmpge_f (tgt := 97) C dX7_write_68 (by decide) (nI_ge (by omega) (by omega)) ?_
            refine V_aload_n C dX7_write_71 rfl ?_
            refine V_get C dX7_write_72 fr_7_7 hM rfl ?_
            refine V_aload_n C dX7_write_75 rfl ?_
            refine V_get C dX7_write_76 fr_7_98 hM rfl ?_
            refine V_iload_n C dX7_write_79 rfl ?_
            refine G_iast C dX7_write_80 h302 rfl (show (zTxt u).length + i < 400 by omega) (by decide) (fun G1 h302 hfr => ?_)
            have hM := (hfr _ (by omega)).trans hM
            have hK := fr_step hK hfr (by decide)
            refine V_aload_n C dX7_write_81 rfl ?_
            refine V_dup C dX7_write_82 rfl ?_
            refine V_get C dX7_write_83 fr_7_98 hM rfl ?_
            refine V_iconst (v := 1) C dX7_write_86 rfl ?_
            refine V_iadd C dX7_write_87 ?_
            refine V_nm (nI_1 _) ?_
            refine G_put C dX7_write_88 fp_7_98 hM rfl rfl (Nat.le_of_ble_eq_true rfl) (fun G2 hM hfr => ?_)
            dsimp only [List.set] at hM
            have h302 := (hfr _ (by omega)).trans h302
            have hK := fr_step hK hfr (by decide)
            refine V_iinc C dX7_write_91 rfl (nI_inc _) (by decide) ?_
            refine V_goto (tgt := 65) C dX7_write_94 (by decide) ?_
            refine V_sb (ih (i + 1) G2 _ (by omega) hM h302 (fun j hj => ?_) hK) ⟨rfl, rfl, rfl, rfl, trivial⟩
            rw [app_getD (by omega)]
            by_cases e : j = (zTxt u).length + i
            · rw [e, pk_us, if_pos rfl]
            · rw [pk_un e, if_neg e]; exact hf j (by omega)
        exact V_sb (loop k 0 F1 f302 (Nat.zero_add _) hO1 h302 (fun j hj => by rw [List.replicate_zero, List.append_nil]; have := g302 j hj; rwa [Nat.zero_add] at this) (fun _ _ => rfl)) ⟨rfl, rfl, rfl, rfl, trivial⟩
      · rw [if_pos (Nat.lt_of_not_le (fun h => h3 (nI_le (b := 400) h (by decide))))] at Q
        refine V_iconst (v := 2) C dX7_write_49 rfl ?_
        refine V_goto (tgt := 54) C dX7_write_50 (by decide) ?_
        refine V_invV C dX7_write_54 hM rfl (m_fails _ _ _ _ _ _ hO) mv_7_101 rfl (Nat.le_of_ble_eq_true rfl) ⟨Nat.le_of_ble_eq_true rfl, Nat.le_of_ble_eq_true rfl⟩ ⟨Nat.le_of_ble_eq_true rfl, Nat.le_of_ble_eq_true rfl⟩ (fun _ _ _ h => VT_no h) (fun v ad1 F1 hp => ?_)
        obtain ⟨rfl, rfl, hO1, hfr⟩ := hp
        refine V_ifeq_f (tgt := 62) C dX7_write_57 (by decide) (by decide) ?_
        refine V_iconst (v := 0) C dX7_write_60 rfl ?_
        exact V_ireturn C Q dX7_write_61 rfl (Nat.le_of_ble_eq_true rfl) (Nat.le_of_ble_eq_true rfl) ⟨rfl, rfl, hM0.th hO1 hfr, fun c hc => ⟨rfl, hfr c (by omega)⟩⟩
def PoN (D : Dx) (ad : Nat → Nat) (F : Fn) (r : Ans) : Pst := fun v ad1 F1 => v = none ∧ ad = ad1 ∧ MRep D ad1 F1 r.2.2 (nI r.1) ∧ FrM ad F ad1 F1
theorem i32_le0 {a : Int32} (h : a < 1) : a ≤ 0 := by
  rw [Int32.lt_iff_toInt_lt] at h
  rw [Int32.le_iff_toInt_le]
  have e1 : (1 : Int32).toInt = 1 := by decide
  have e0 : (0 : Int32).toInt = 0 := by decide
  omega
theorem i32_5 {a : Int32} (h : 4 < a) : nI 5 ≤ a := by
  rw [Int32.lt_iff_toInt_lt] at h
  rw [Int32.le_iff_toInt_le]
  have e1 : (4 : Int32).toInt = 4 := by decide
  have e0 : (nI 5).toInt = 5 := by decide
  omega
theorem MRep.kw {D : Dx} {ad : Nat → Nat} {F G : Fn} {u : St} {th : Int32} {kw : Nat → Int32} (h : MRep D ad F u th) (hN : aN D G 322 5 5 kw) (hK : ∀ x, x ≠ 322 → G x = F x) : MRep D ad G (sKw u kw) th := by
  obtain ⟨k0, k1, k2, k3, k4, k5, k6, k7, k8, k9, k10, k11, k12, k13, k14, k15, k16, k17, k18, k19, k20, k21, k22⟩ := h
  exact ⟨k0.kept (hK _ (by decide)), k1.kept (hK _ (by decide)), fun m hm => (k2 m hm).kept (hK _ (by decide)), k3.imp fun f hf => (hK _ (by decide)).trans hf, k4.kept (hK _ (by decide)), k5.kept (hK _ (by decide)), k6.kept (hK _ (by decide)), k7.kept (hK _ (by decide)), k8.kept (hK _ (by decide)), k9.kept (hK _ (by decide)), k10.kept (hK _ (by decide)), k11.kept (hK _ (by decide)), k12.kept (hK _ (by decide)), k13.kept (hK _ (by decide)), k14.kept (hK _ (by decide)), k15.kept (hK _ (by decide)), k16.kept (hK _ (by decide)), k17.kept (hK _ (by decide)), k18.kept (hK _ (by decide)), k19.kept (hK _ (by decide)), hN, k21.kept (hK _ (by decide)), k22.kept (hK _ (by decide))⟩
theorem MRep.sl {D : Dx} {ad : Nat → Nat} {F G : Fn} {u : St} {th : Int32} {se la : Nat → Int32} (h : MRep D ad F u th) (hN : aN D G 323 9 9 se) (hN2 : aN D G 324 9 9 la) (hK : ∀ x, x ∉ [323, 324] → G x = F x) : MRep D ad G (sSL u se la) th := by
  obtain ⟨k0, k1, k2, k3, k4, k5, k6, k7, k8, k9, k10, k11, k12, k13, k14, k15, k16, k17, k18, k19, k20, k21, k22⟩ := h
  exact ⟨k0.kept (hK _ (by decide)), k1.kept (hK _ (by decide)), fun m hm => (k2 m hm).kept (hK _ (by decide)), k3.imp fun f hf => (hK _ (by decide)).trans hf, k4.kept (hK _ (by decide)), k5.kept (hK _ (by decide)), k6.kept (hK _ (by decide)), k7.kept (hK _ (by decide)), k8.kept (hK _ (by decide)), k9.kept (hK _ (by decide)), k10.kept (hK _ (by decide)), k11.kept (hK _ (by decide)), k12.kept (hK _ (by decide)), k13.kept (hK _ (by decide)), k14.kept (hK _ (by decide)), k15.kept (hK _ (by decide)), k16.kept (hK _ (by decide)), k17.kept (hK _ (by decide)), k18.kept (hK _ (by decide)), k19.kept (hK _ (by decide)), k20.kept (hK _ (by decide)), hN, hN2⟩
set_option maxHeartbeats 400000 in
set_option maxRecDepth 100000 in
/-- setKeyword -/
theorem m_setKeyword {l : Launch} {D : Dx} {b0 : Nat} {ad : Nat → Nat} {F : Fn} (u : St) (th : Int32) (a b : Int32) (hM0 : MRep D ad F u th) (hI : Inv u) (hk0 : zKw u 0 = -1) : Ct l D b0 yX7_setKeyword (wsA yX7_setKeyword cX7_setKeyword 4 none) (rK 1) [.ref (ad 300), .int a, .int b] ad F (PoN D ad F (spKey u a b)) noX := by
  refine Ct.of (by decide +kernel) (by simp [Value.category]) (Nat.le_of_ble_eq_true rfl) (fun X eD eb el C Q => ?_)
  subst eD; subst eb; subst el
  have hO := hM0.1
  have hM := hO
  unfold mObj at hM
  refine V_aload_n C dX7_setKeyword_0 rfl ?_
  refine V_iload_n C dX7_setKeyword_1 rfl ?_
  refine V_iconst (v := 1) C dX7_setKeyword_2 rfl ?_
  refine V_iconst (v := 4) C dX7_setKeyword_3 rfl ?_
  refine V_invS C dX7_setKeyword_4 (m_isIn a 1 4) ms_7_94 rfl (Nat.le_of_ble_eq_true rfl) ⟨Nat.le_of_ble_eq_true rfl, Nat.le_of_ble_eq_true rfl⟩ ⟨Nat.le_of_ble_eq_true rfl, Nat.le_of_ble_eq_true rfl⟩ (fun _ _ _ h => VT_no h) (fun v ad1 F1 hp => ?_)
  obtain ⟨rfl, rfl, rfl⟩ := hp
  refine V_ifeq (tgt := 25) C dX7_setKeyword_7 (by decide) (fun h1 => ?_) (fun h1 => ?_)
  · rw [show spKey u a b = (1, 0, u) from if_pos ((isB_0 h1).elim (fun h => Or.inl (i32_le0 h)) (fun h => Or.inr (Or.inl (i32_5 h))))] at Q
    refine V_iconst (v := 1) C dX7_setKeyword_25 rfl ?_
    refine V_invV C dX7_setKeyword_26 hM rfl (m_fails _ _ _ _ _ _ hO) mv_7_101 rfl (Nat.le_of_ble_eq_true rfl) ⟨Nat.le_of_ble_eq_true rfl, Nat.le_of_ble_eq_true rfl⟩ ⟨Nat.le_of_ble_eq_true rfl, Nat.le_of_ble_eq_true rfl⟩ (fun _ _ _ h => VT_no h) (fun v ad1 F1 hp => ?_)
    obtain ⟨rfl, rfl, hO1, hfr⟩ := hp
    refine V_ifne_t (tgt := 78) C dX7_setKeyword_29 (by decide) (by decide) ?_
    exact V_return C Q dX7_setKeyword_78 (Nat.le_of_ble_eq_true rfl) (Nat.le_of_ble_eq_true rfl) ⟨rfl, rfl, hM0.th hO1 hfr, fun c hc => ⟨rfl, hfr c (by omega)⟩⟩
  · refine V_iload_n C dX7_setKeyword_10 rfl ?_
    refine V_iconst (v := (-1)) C dX7_setKeyword_11 rfl ?_
    refine V_sipush (v := 999) C dX7_setKeyword_12 (by decide) ?_
    refine V_invS C dX7_setKeyword_15 (m_isIn b (-1) 999) ms_7_94 rfl (Nat.le_of_ble_eq_true rfl) ⟨Nat.le_of_ble_eq_true rfl, Nat.le_of_ble_eq_true rfl⟩ ⟨Nat.le_of_ble_eq_true rfl, Nat.le_of_ble_eq_true rfl⟩ (fun _ _ _ h => VT_no h) (fun v ad1 F1 hp => ?_)
    obtain ⟨rfl, rfl, rfl⟩ := hp
    refine V_ifeq (tgt := 25) C dX7_setKeyword_18 (by decide) (fun h2 => ?_) (fun h2 => ?_)
    · rw [show spKey u a b = (1, 0, u) from if_pos (Or.inr (Or.inr (isB_0 h2)))] at Q
      refine V_iconst (v := 1) C dX7_setKeyword_25 rfl ?_
      refine V_invV C dX7_setKeyword_26 hM rfl (m_fails _ _ _ _ _ _ hO) mv_7_101 rfl (Nat.le_of_ble_eq_true rfl) ⟨Nat.le_of_ble_eq_true rfl, Nat.le_of_ble_eq_true rfl⟩ ⟨Nat.le_of_ble_eq_true rfl, Nat.le_of_ble_eq_true rfl⟩ (fun _ _ _ h => VT_no h) (fun v ad1 F1 hp => ?_)
      obtain ⟨rfl, rfl, hO1, hfr⟩ := hp
      refine V_ifne_t (tgt := 78) C dX7_setKeyword_29 (by decide) (by decide) ?_
      exact V_return C Q dX7_setKeyword_78 (Nat.le_of_ble_eq_true rfl) (Nat.le_of_ble_eq_true rfl) ⟨rfl, rfl, hM0.th hO1 hfr, fun c hc => ⟨rfl, hfr c (by omega)⟩⟩
    · have i1 := isB_1 h1
      have i2 := isB_1 h2
      obtain ⟨j, hj, rfl⟩ := nI_of2 (n := 4) (M := 4) rfl (fun h => i1.1 (Int32.lt_trans h (by decide))) (Int32.not_lt.mp i1.2)
      have ej : (nI j).toNatClampNeg = j := nI_clamp (by omega)
      have hj1 : 0 < j := Nat.pos_of_ne_zero (fun e => i1.1 (by rw [e]; decide))
      have hgd : ¬ (nI j ≤ 0 ∨ nI 5 ≤ nI j ∨ b < -1 ∨ 999 < b) := by
        rintro (h | h | h | h)
        · exact nI_nle hj1 (by omega) h
        · exact nI_ge (a := j) (b := 5) (by omega) (by decide) h
        · exact i2.1 h
        · exact i2.2 h
      rw [show spKey u (nI j) b = (0, 0, sKw u (gkF (zKw u) j b)) by unfold spKey; rw [if_neg hgd, ej]] at Q
      refine V_iconst (v := 0) C dX7_setKeyword_21 rfl ?_
      refine V_goto (tgt := 26) C dX7_setKeyword_22 (by decide) ?_
      refine V_invV C dX7_setKeyword_26 hM rfl (m_fails _ _ _ _ _ _ hO) mv_7_101 rfl (Nat.le_of_ble_eq_true rfl) ⟨Nat.le_of_ble_eq_true rfl, Nat.le_of_ble_eq_true rfl⟩ ⟨Nat.le_of_ble_eq_true rfl, Nat.le_of_ble_eq_true rfl⟩ (fun _ _ _ h => VT_no h) (fun v ad1 F1 hp => ?_)
      obtain ⟨rfl, rfl, hO1, hfr⟩ := hp
      have hA : MRep (xD X) ad F1 u 0 := hM0.th hO1 hfr
      have hfrA := hfr
      have hM := hO1
      unfold mObj at hM
      refine V_ifne_f (tgt := 78) C dX7_setKeyword_29 (by decide) (by decide) ?_
      obtain ⟨f322, h322, g322⟩ := hA.2.2.2.2.2.2.2.2.2.2.2.2.2.2.2.2.2.2.2.2.1
      refine V_iconst (v := 1) C dX7_setKeyword_32 rfl ?_
      refine V_nm (show (1 : Int32) = nI 1 from rfl) ?_
      refine V_istore_n C dX7_setKeyword_33 (by decide) ?_
      have loop : ∀ (d k : Nat) (G : Fn) (f : Nat → Int32), k + d = 5 → 1 ≤ k → G 322 = some (aI (xD X) 5 f) → (∀ i, i < 5 → f i = if 1 ≤ i ∧ i < k then (if zKw u i = b then -1 else zKw u i) else zKw u i) → (∀ x, x ≠ 322 → G x = F1 x) →
          V X 0 0 34 [(0, .ref (ad 300)), (1, .int (nI j)), (2, .int b), (3, .int (nI k))] [] ad G := by
        intro d
        induction d with
        | zero =>
          intro k G f hd h1k h322 hf hK
          have hk : k = 5 := by omega
          subst hk
          have hM := (hK 300 (by decide)).trans hM
          refine V_iload_n C dX7_setKeyword_34 rfl ?_
          refine V_iconst (v := 5) C dX7_setKeyword_35 rfl ?_
          refine V_icmpge_t (tgt := 71) C dX7_setKeyword_36 (by decide) (by decide) ?_
          refine V_aload_n C dX7_setKeyword_71 rfl ?_
          refine V_get C dX7_setKeyword_72 fr_7_65 hM rfl ?_
          refine V_iload_n C dX7_setKeyword_75 rfl ?_
          refine V_iload_n C dX7_setKeyword_76 rfl ?_
          refine G_iast C dX7_setKeyword_77 h322 rfl (show j < 5 by omega) (by decide) (fun G1 h322 hfr => ?_)
          refine V_return C Q dX7_setKeyword_78 (Nat.le_of_ble_eq_true rfl) (Nat.le_of_ble_eq_true rfl) ⟨rfl, rfl, hA.kw (kw := gkF (zKw u) j b) ⟨_, h322, fun i hi => ?_⟩ (fun x hx => (hfr x hx).trans (hK x hx)), fun c hc => ⟨rfl, ((hfr c (by omega)).trans (hK c (by omega))).trans (hfrA c (by omega))⟩⟩
          unfold gkF
          by_cases e : i = j
          · rw [e, pk_us, if_pos rfl]
          · rw [pk_un e, if_neg e, hf i hi]
            by_cases e0 : i = 0
            · subst e0
              rw [if_neg (by omega), hk0]
              split <;> rfl
            · rw [if_pos (by omega)]
        | succ d ih =>
          intro k G f hd h1k h322 hf hK
          have hM := (hK 300 (by decide)).trans hM
          have hfk : f k = zKw u k := (hf k (by omega)).trans (if_neg (by omega))
          have nx : ∀ v : Int32, v = (if zKw u k = b then -1 else zKw u k) → V X 0 0 64 [(0, .ref (ad 300)), (1, .int (nI j)), (2, .int b), (3, .int (nI k))] [.int v, .int (nI k), .ref (ad 322)] ad G := by
            intro v hv
            refine G_iast C dX7_setKeyword_64 h322 rfl (show k < 5 by omega) (by decide) (fun G1 h322 hfr => ?_)
            refine V_iinc C dX7_setKeyword_65 rfl (nI_inc _) (by decide) ?_
            refine V_goto (tgt := 34) C dX7_setKeyword_68 (by decide) ?_
            refine V_sb (ih (k + 1) G1 _ (by omega) (by omega) h322 (fun i hi => ?_) (fun x hx => (hfr x hx).trans (hK x hx))) ⟨rfl, rfl, rfl, rfl, trivial⟩
            by_cases e : i = k
            · rw [e, pk_us, hv, if_pos (show 1 ≤ k ∧ k < k + 1 by omega)]
            · rw [pk_un e, hf i hi]
              by_cases e2 : 1 ≤ i ∧ i < k
              · rw [if_pos e2, if_pos (show 1 ≤ i ∧ i < k + 1 by omega)]
              · rw [if_neg e2, if_neg (show ¬ (1 ≤ i ∧ i < k + 1) by omega)]
          refine V_iload_n C dX7_setKeyword_34 rfl ?_
          refine V_iconst (v := 5) C dX7_setKeyword_35 rfl ?_
          refine V_icmpge_f (tgt := 71) C dX7_setKeyword_36 (by decide) (nI_ge (a := k) (b := 5) (by omega) (by decide)) ?_
          refine V_aload_n C dX7_setKeyword_39 rfl ?_
          refine V_get C dX7_setKeyword_40 fr_7_65 hM rfl ?_
          refine V_iload_n C dX7_setKeyword_43 rfl ?_
          refine V_aload_n C dX7_setKeyword_44 rfl ?_
          refine V_get C dX7_setKeyword_45 fr_7_65 hM rfl ?_
          refine V_iload_n C dX7_setKeyword_48 rfl ?_
          refine V_iald C dX7_setKeyword_49 h322 rfl (show k < 5 by omega) (by decide) ?_
          refine V_nm hfk ?_
          refine V_iload_n C dX7_setKeyword_50 rfl ?_
          refine V_icmpne (tgt := 58) C dX7_setKeyword_51 (by decide) (fun h3 => ?_) (fun h3 => ?_)
          · refine V_aload_n C dX7_setKeyword_58 rfl ?_
            refine V_get C dX7_setKeyword_59 fr_7_65 hM rfl ?_
            refine V_iload_n C dX7_setKeyword_62 rfl ?_
            refine V_iald C dX7_setKeyword_63 h322 rfl (show k < 5 by omega) (by decide) ?_
            exact nx _ (by rw [if_neg h3]; exact hfk)
          · refine V_iconst (v := (-1)) C dX7_setKeyword_54 rfl ?_
            refine V_goto (tgt := 64) C dX7_setKeyword_55 (by decide) ?_
            exact nx _ (by rw [if_pos h3])
      exact V_sb (loop 4 1 F1 f322 rfl (Nat.le_refl _) h322 (fun i hi => by rw [if_neg (by omega)]; exact g322 i hi) (fun _ _ => rfl)) ⟨rfl, rfl, rfl, rfl, trivial⟩
/-- the last service that has the keyword, below k -/
def svM (kw : Nat → Int32) (x : Int32) : Nat → Nat
  | 0 => 0
  | k + 1 => if 1 ≤ k ∧ kw k = x then k else svM kw x k
theorem svM_le (kw : Nat → Int32) (x : Int32) : ∀ k, svM kw x k ≤ k
  | 0 => Nat.le_refl _
  | k + 1 => by
    unfold svM
    split
    · omega
    · have := svM_le kw x k; omega
def KwU (kw : Nat → Int32) : Prop := ∀ i j, 1 ≤ i → i < j → j < 5 → kw i = kw j → kw i = -1
theorem sv_eq {kw : Nat → Int32} {x : Int32} (h : KwU kw) (hx : x ≠ -1) : svM kw x 5 = svW kw x := by
  have e : svM kw x 5 = if kw 4 = x then 4 else if kw 3 = x then 3 else if kw 2 = x then 2 else if kw 1 = x then 1 else 0 := by
    simp [svM]
  have no : ∀ i j, 1 ≤ i → i < j → j < 5 → kw i = x → kw j = x → False := fun i j h1 h2 h3 h4 h5 => hx ((h4.symm).trans (h i j h1 h2 h3 (h4.trans h5.symm)))
  rw [e]
  unfold svW
  by_cases h1 : kw 1 = x <;> by_cases h2 : kw 2 = x <;> by_cases h3 : kw 3 = x <;> by_cases h4 : kw 4 = x <;> first | exact (no 1 2 (by decide) (by decide) (by decide) h1 h2).elim | exact (no 1 3 (by decide) (by decide) (by decide) h1 h3).elim | exact (no 1 4 (by decide) (by decide) (by decide) h1 h4).elim | exact (no 2 3 (by decide) (by decide) (by decide) h2 h3).elim | exact (no 2 4 (by decide) (by decide) (by decide) h2 h4).elim | exact (no 3 4 (by decide) (by decide) (by decide) h3 h4).elim | simp only [h1, h2, h3, h4, if_true, if_false]
theorem upd_eqn {f g : Nat → Int32} {n j : Nat} {v : Int32} (h : ∀ l, l < n → f l = g l) : ∀ l, l < n → upd f j v l = upd g j v l := fun l hl => by
  by_cases e : l = j
  · subst e; rw [pk_us, pk_us]
  · rw [pk_un e, pk_un e]; exact h l hl
set_option maxHeartbeats 400000 in
set_option maxRecDepth 100000 in
/-- come -/
theorem m_come {l : Launch} {D : Dx} {b0 : Nat} {ad : Nat → Nat} {F : Fn} (u : St) (th : Int32) (a b : Int32) (hM0 : MRep D ad F u th) (hI : Inv u) (hku : KwU (zKw u)) : Ct l D b0 yX7_come (wsA yX7_come cX7_come 5 (some .int)) (rK 1) [.ref (ad 300), .int a, .int b] ad F (PoM D ad F (spCome u a b)) noX := by
  refine Ct.of (by decide +kernel) (by simp [Value.category]) (Nat.le_of_ble_eq_true rfl) (fun X eD eb el C Q => ?_)
  subst eD; subst eb; subst el
  have hO := hM0.1
  have hM := hO
  unfold mObj at hM
  refine V_aload_n C dX7_come_0 rfl ?_
  refine V_iload_n C dX7_come_1 rfl ?_
  refine V_iconst (v := 0) C dX7_come_2 rfl ?_
  refine V_bipush (v := 8) C dX7_come_3 (by decide) ?_
  refine V_invS C dX7_come_5 (m_isIn a 0 8) ms_7_94 rfl (Nat.le_of_ble_eq_true rfl) ⟨Nat.le_of_ble_eq_true rfl, Nat.le_of_ble_eq_true rfl⟩ ⟨Nat.le_of_ble_eq_true rfl, Nat.le_of_ble_eq_true rfl⟩ (fun _ _ _ h => VT_no h) (fun v ad1 F1 hp => ?_)
  obtain ⟨rfl, rfl, rfl⟩ := hp
  rw [isB_n 9 (by decide) (by decide)]
  refine V_ifeq (tgt := 26) C dX7_come_8 (by decide) (fun h1 => ?_) (fun h1 => ?_)
  · rw [show spCome u a b = (1, 0, u) from if_pos ((ite01 h1).elim Or.inl (fun h => Or.inr (Or.inl h)))] at Q
    refine V_iconst (v := 1) C dX7_come_26 rfl ?_
    refine V_invV C dX7_come_27 hM rfl (m_fails _ _ _ _ _ _ hO) mv_7_101 rfl (Nat.le_of_ble_eq_true rfl) ⟨Nat.le_of_ble_eq_true rfl, Nat.le_of_ble_eq_true rfl⟩ ⟨Nat.le_of_ble_eq_true rfl, Nat.le_of_ble_eq_true rfl⟩ (fun _ _ _ h => VT_no h) (fun v ad1 F1 hp => ?_)
    obtain ⟨rfl, rfl, hO1, hfr⟩ := hp
    refine V_ifeq_f (tgt := 35) C dX7_come_30 (by decide) (by decide) ?_
    refine V_iconst (v := 0) C dX7_come_33 rfl ?_
    exact V_ireturn C Q dX7_come_34 rfl (Nat.le_of_ble_eq_true rfl) (Nat.le_of_ble_eq_true rfl) ⟨rfl, rfl, hM0.th hO1 hfr, fun c hc => ⟨rfl, hfr c (by omega)⟩⟩
  · refine V_iload_n C dX7_come_11 rfl ?_
    refine V_iconst (v := 0) C dX7_come_12 rfl ?_
    refine V_sipush (v := 999) C dX7_come_13 (by decide) ?_
    refine V_invS C dX7_come_16 (m_isIn b 0 999) ms_7_94 rfl (Nat.le_of_ble_eq_true rfl) ⟨Nat.le_of_ble_eq_true rfl, Nat.le_of_ble_eq_true rfl⟩ ⟨Nat.le_of_ble_eq_true rfl, Nat.le_of_ble_eq_true rfl⟩ (fun _ _ _ h => VT_no h) (fun v ad1 F1 hp => ?_)
    obtain ⟨rfl, rfl, rfl⟩ := hp
    refine V_ifeq (tgt := 26) C dX7_come_19 (by decide) (fun h2 => ?_) (fun h2 => ?_)
    · rw [show spCome u a b = (1, 0, u) from if_pos (Or.inr (Or.inr (isB_0 h2)))] at Q
      refine V_iconst (v := 1) C dX7_come_26 rfl ?_
      refine V_invV C dX7_come_27 hM rfl (m_fails _ _ _ _ _ _ hO) mv_7_101 rfl (Nat.le_of_ble_eq_true rfl) ⟨Nat.le_of_ble_eq_true rfl, Nat.le_of_ble_eq_true rfl⟩ ⟨Nat.le_of_ble_eq_true rfl, Nat.le_of_ble_eq_true rfl⟩ (fun _ _ _ h => VT_no h) (fun v ad1 F1 hp => ?_)
      obtain ⟨rfl, rfl, hO1, hfr⟩ := hp
      refine V_ifeq_f (tgt := 35) C dX7_come_30 (by decide) (by decide) ?_
      refine V_iconst (v := 0) C dX7_come_33 rfl ?_
      exact V_ireturn C Q dX7_come_34 rfl (Nat.le_of_ble_eq_true rfl) (Nat.le_of_ble_eq_true rfl) ⟨rfl, rfl, hM0.th hO1 hfr, fun c hc => ⟨rfl, hfr c (by omega)⟩⟩
    · have i1 := ite01n h1
      have i2 := isB_1 h2
      obtain ⟨p, hp9, rfl⟩ := badI_not (a := a) (n := 9) (by omega) i1
      have ep : (nI p).toNatClampNeg = p := nI_clamp (by omega)
      have hgd : ¬ (nI p < 0 ∨ nI 9 ≤ nI p ∨ b < 0 ∨ 999 < b) := by
        rintro (h | h | h | h)
        · exact i1 (Or.inl h)
        · exact i1 (Or.inr h)
        · exact i2.1 h
        · exact i2.2 h
      have hsv := sv_eq hku (x := b) (fun e => i2.1 (by rw [e]; decide))
      obtain ⟨nw, hnw⟩ : ∃ v, v = seW (zKw u) (zSe u) (zLa u) p b (nI (zNow u)) := ⟨_, rfl⟩
      rw [show spCome u (nI p) b = (0, nw, sSL u (upd (zSe u) p nw) (upd (zLa u) p (nI (zNow u)))) by unfold spCome; rw [if_neg hgd, ep, ← hnw]] at Q
      obtain ⟨se0, hse5, hse⟩ := hI.2.2.2.2.2.2.2.2.1 p hp9
      refine V_iconst (v := 0) C dX7_come_22 rfl ?_
      refine V_goto (tgt := 27) C dX7_come_23 (by decide) ?_
      refine V_invV C dX7_come_27 hM rfl (m_fails _ _ _ _ _ _ hO) mv_7_101 rfl (Nat.le_of_ble_eq_true rfl) ⟨Nat.le_of_ble_eq_true rfl, Nat.le_of_ble_eq_true rfl⟩ ⟨Nat.le_of_ble_eq_true rfl, Nat.le_of_ble_eq_true rfl⟩ (fun _ _ _ h => VT_no h) (fun v ad1 F1 hp => ?_)
      obtain ⟨rfl, rfl, hO1, hfr⟩ := hp
      have hA : MRep (xD X) ad F1 u 0 := hM0.th hO1 hfr
      have hfrA := hfr
      have hM := hO1
      unfold mObj at hM
      refine V_ifeq_t (tgt := 35) C dX7_come_30 (by decide) (by decide) ?_
      obtain ⟨f322, h322, g322⟩ := hA.2.2.2.2.2.2.2.2.2.2.2.2.2.2.2.2.2.2.2.2.1
      obtain ⟨f323, h323, g323⟩ := hA.2.2.2.2.2.2.2.2.2.2.2.2.2.2.2.2.2.2.2.2.2.1
      obtain ⟨f324, h324, g324⟩ := hA.2.2.2.2.2.2.2.2.2.2.2.2.2.2.2.2.2.2.2.2.2.2
      refine V_iconst (v := 0) C dX7_come_35 rfl ?_
      refine V_nm (show (0 : Int32) = nI 0 from rfl) ?_
      refine V_istore_n C dX7_come_36 (by decide) ?_
      refine V_iconst (v := 1) C dX7_come_37 rfl ?_
      refine V_nm (show (1 : Int32) = nI 1 from rfl) ?_
      refine V_istore C dX7_come_38 (by decide) ?_
      have nx : ∀ v : Int32, v = nw → V X 0 0 130 [(0, .ref (ad 300)), (1, .int (nI p)), (2, .int b), (3, .int (nI (svM (zKw u) b 5)))] [.int v, .int (nI p), .ref (ad 323)] ad F1 := by
        intro v hv
        refine G_iast C dX7_come_130 h323 rfl (show p < 9 by omega) (by decide) (fun G1 h323 hfr => ?_)
        have hM := (hfr _ (by omega)).trans hM
        have h324 := (hfr _ (by omega)).trans h324
        have hfr1 := hfr
        refine V_aload_n C dX7_come_131 rfl ?_
        refine V_get C dX7_come_132 fr_7_71 hM rfl ?_
        refine V_iload_n C dX7_come_135 rfl ?_
        refine V_aload_n C dX7_come_136 rfl ?_
        refine V_get C dX7_come_137 fr_7_127 hM rfl ?_
        refine G_iast C dX7_come_140 h324 rfl (show p < 9 by omega) (by decide) (fun G2 h324 hfr => ?_)
        have hM := (hfr _ (by omega)).trans hM
        have h323 := (hfr _ (by omega)).trans h323
        refine V_aload_n C dX7_come_141 rfl ?_
        refine V_get C dX7_come_142 fr_7_68 hM rfl ?_
        refine V_iload_n C dX7_come_145 rfl ?_
        refine V_iald C dX7_come_146 h323 rfl (show p < 9 by omega) (by decide) ?_
        refine V_nm (pk_us.trans hv) ?_
        exact V_ireturn C Q dX7_come_147 rfl (Nat.le_of_ble_eq_true rfl) (Nat.le_of_ble_eq_true rfl) ⟨rfl, rfl, hA.sl ⟨_, h323, by rw [hv]; exact upd_eqn g323⟩ ⟨_, h324, upd_eqn g324⟩ (fun x hx => (hfr x (by simp at hx; omega)).trans (hfr1 x (by simp at hx; omega))), fun c hc => ⟨rfl, ((hfr c (by omega)).trans (hfr1 c (by omega))).trans (hfrA c (by omega))⟩⟩
      have go2 : ∀ g : Int32, (g = 0 ∨ g = 1) → (g = 1 → ¬ 20 ≤ nI (zNow u) - zLa u p) → (g = 0 → zSe u p = 0 ∨ 20 ≤ nI (zNow u) - zLa u p) → V X 0 0 102 [(0, .ref (ad 300)), (1, .int (nI p)), (2, .int b), (3, .int (nI (svM (zKw u) b 5))), (4, .int g)] [] ad F1 := by
        intro g hg01 hg1 hg0
        refine V_aload_n C dX7_come_102 rfl ?_
        refine V_get C dX7_come_103 fr_7_68 hM rfl ?_
        refine V_iload_n C dX7_come_106 rfl ?_
        refine V_iload_n C dX7_come_107 rfl ?_
        refine V_ifle (tgt := 115) C dX7_come_108 (by decide) (fun h3 => ?_) (fun h3 => ?_)
        · have h0 : svW (zKw u) b = 0 := by
            rw [← hsv]
            have hle := svM_le (zKw u) b 5
            exact Nat.eq_zero_of_not_pos (fun h => nI_nle h (by omega) h3)
          unfold seW at hnw
          rw [if_pos h0] at hnw
          refine V_iload C dX7_come_115 rfl ?_
          refine V_ifeq (tgt := 129) C dX7_come_117 (by decide) (fun h4 => ?_) (fun h4 => ?_)
          · have hz : nw = 0 := by
              rcases hg0 h4 with h | h
              · rw [hnw, h]; split <;> rfl
              · rw [hnw, if_pos h]
            refine V_iconst (v := 0) C dX7_come_129 rfl ?_
            exact V_sb (nx _ hz.symm) ⟨rfl, rfl, rfl, rfl, trivial⟩
          · rw [if_neg (hg1 (hg01.resolve_left h4))] at hnw
            refine V_aload_n C dX7_come_120 rfl ?_
            refine V_get C dX7_come_121 fr_7_68 hM rfl ?_
            refine V_iload_n C dX7_come_124 rfl ?_
            refine V_iald C dX7_come_125 h323 rfl (show p < 9 by omega) (by decide) ?_
            refine V_nm ((g323 p hp9).trans hnw.symm) ?_
            refine V_goto (tgt := 130) C dX7_come_126 (by decide) ?_
            exact V_sb (nx _ rfl) ⟨rfl, rfl, rfl, rfl, trivial⟩
        · have h0 : ¬ svW (zKw u) b = 0 := by
            rw [← hsv]
            intro h
            rw [h] at h3
            exact h3 (by decide)
          unfold seW at hnw
          rw [if_neg h0, ← hsv] at hnw
          refine V_iload_n C dX7_come_111 rfl ?_
          refine V_goto (tgt := 130) C dX7_come_112 (by decide) ?_
          exact V_sb (nx _ hnw.symm) ⟨rfl, rfl, rfl, rfl, trivial⟩
      have loop : ∀ (d k : Nat), k + d = 5 → 1 ≤ k → V X 0 0 40 [(0, .ref (ad 300)), (1, .int (nI p)), (2, .int b), (3, .int (nI (svM (zKw u) b k))), (4, .int (nI k))] [] ad F1 := by
        intro d
        induction d with
        | zero =>
          intro k hd h1k
          have hk : k = 5 := by omega
          subst hk
          refine V_iload C dX7_come_40 rfl ?_
          refine V_iconst (v := 5) C dX7_come_42 rfl ?_
          refine V_icmpge_t (tgt := 70) C dX7_come_43 (by decide) (by decide) ?_
          refine V_aload_n C dX7_come_70 rfl ?_
          refine V_get C dX7_come_71 fr_7_68 hM rfl ?_
          refine V_iload_n C dX7_come_74 rfl ?_
          refine V_iald C dX7_come_75 h323 rfl (show p < 9 by omega) (by decide) ?_
          refine V_nm (g323 p hp9) ?_
          refine V_ifle (tgt := 99) C dX7_come_76 (by decide) (fun h3 => ?_) (fun h3 => ?_)
          · refine V_iconst (v := 0) C dX7_come_99 rfl ?_
            refine V_istore C dX7_come_100 (by decide) ?_
            refine V_sb (go2 0 (Or.inl rfl) (fun h => absurd h (by decide)) (fun _ => Or.inl ?_)) ⟨rfl, rfl, rfl, rfl, rfl, trivial⟩
            rw [hse] at h3 ⊢
            rw [Nat.eq_zero_of_not_pos (fun h => nI_nle h (by omega) h3)]
            rfl
          · refine V_aload_n C dX7_come_79 rfl ?_
            refine V_get C dX7_come_80 fr_7_127 hM rfl ?_
            refine V_aload_n C dX7_come_83 rfl ?_
            refine V_get C dX7_come_84 fr_7_71 hM rfl ?_
            refine V_iload_n C dX7_come_87 rfl ?_
            refine V_iald C dX7_come_88 h324 rfl (show p < 9 by omega) (by decide) ?_
            refine V_nm (g324 p hp9) ?_
            refine V_isub C dX7_come_89 ?_
            refine V_bipush (v := 20) C dX7_come_90 (by decide) ?_
            refine V_icmpge (tgt := 99) C dX7_come_92 (by decide) (fun h4 => ?_) (fun h4 => ?_)
            · refine V_iconst (v := 0) C dX7_come_99 rfl ?_
              refine V_istore C dX7_come_100 (by decide) ?_
              exact V_sb (go2 0 (Or.inl rfl) (fun h => absurd h (by decide)) (fun _ => Or.inr h4)) ⟨rfl, rfl, rfl, rfl, rfl, trivial⟩
            · refine V_iconst (v := 1) C dX7_come_95 rfl ?_
              refine V_goto (tgt := 100) C dX7_come_96 (by decide) ?_
              refine V_istore C dX7_come_100 (by decide) ?_
              exact V_sb (go2 1 (Or.inr rfl) (fun _ => h4) (fun h => absurd h (by decide))) ⟨rfl, rfl, rfl, rfl, rfl, trivial⟩
        | succ d ih =>
          intro k hd h1k
          have es : svM (zKw u) b (k + 1) = if 1 ≤ k ∧ zKw u k = b then k else svM (zKw u) b k := rfl
          refine V_iload C dX7_come_40 rfl ?_
          refine V_iconst (v := 5) C dX7_come_42 rfl ?_
          refine V_icmpge_f (tgt := 70) C dX7_come_43 (by decide) (nI_ge (a := k) (b := 5) (by omega) (by decide)) ?_
          refine V_aload_n C dX7_come_46 rfl ?_
          refine V_get C dX7_come_47 fr_7_65 hM rfl ?_
          refine V_iload C dX7_come_50 rfl ?_
          refine V_iald C dX7_come_52 h322 rfl (show k < 5 by omega) (by decide) ?_
          refine V_nm (g322 k (by omega)) ?_
          refine V_iload_n C dX7_come_53 rfl ?_
          refine V_icmpne (tgt := 62) C dX7_come_54 (by decide) (fun h3 => ?_) (fun h3 => ?_)
          · rw [if_neg (fun h => h3 h.2)] at es
            refine V_iload_n C dX7_come_62 rfl ?_
            refine V_istore_n C dX7_come_63 (by decide) ?_
            refine V_iinc C dX7_come_64 rfl (nI_inc _) (by decide) ?_
            refine V_goto (tgt := 40) C dX7_come_67 (by decide) ?_
            exact V_sb (ih (k + 1) (by omega) (by omega)) ⟨rfl, rfl, rfl, by rw [es]; rfl, rfl, trivial⟩
          · rw [if_pos ⟨h1k, h3⟩] at es
            refine V_iload C dX7_come_57 rfl ?_
            refine V_goto (tgt := 63) C dX7_come_59 (by decide) ?_
            refine V_istore_n C dX7_come_63 (by decide) ?_
            refine V_iinc C dX7_come_64 rfl (nI_inc _) (by decide) ?_
            refine V_goto (tgt := 40) C dX7_come_67 (by decide) ?_
            exact V_sb (ih (k + 1) (by omega) (by omega)) ⟨rfl, rfl, rfl, by rw [es]; rfl, rfl, trivial⟩
      exact V_sb (loop 4 1 rfl (Nat.le_refl _)) ⟨rfl, rfl, rfl, rfl, rfl, trivial⟩
