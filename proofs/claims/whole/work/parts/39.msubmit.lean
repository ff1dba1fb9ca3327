/-! ===== the model: submit ===== -/
set_option maxHeartbeats 400000 in
set_option maxRecDepth 100000 in
/-- submit -/
theorem m_submit {l : Launch} {D : Dx} {b0 : Nat} {ad : Nat → Nat} {F : Fn} (u : St) (th : Int32) (a b : Int32) (hM0 : MRep D ad F u th) (hI : Inv u) : Ct l D b0 yX7_submit (wsA yX7_submit cX7_submit 6 (some .int)) (rK 5) [.ref (ad 300), .int a, .int b] ad F (PoM D ad F (spSub u a b)) noX := by
  refine Ct.of (by decide +kernel) (by simp [Value.category]) (Nat.le_of_ble_eq_true rfl) (fun X eD eb el C Q => ?_)
  subst eD; subst eb; subst el
  have hO := hM0.1
  have hM := hO
  unfold mObj at hM
  have hmc := hI.2.1
  have hl4 := hI.2.2.1
  have hxs := hI.2.2.2.1
  refine V_iload_n C dX7_submit_0 rfl ?_
  refine V_iconst (v := 0) C dX7_submit_1 rfl ?_
  refine V_bipush (v := 8) C dX7_submit_2 (by decide) ?_
  refine V_invS C dX7_submit_4 (m_isIn a 0 8) ms_7_94 rfl (Nat.le_of_ble_eq_true rfl) ⟨Nat.le_of_ble_eq_true rfl, Nat.le_of_ble_eq_true rfl⟩ ⟨Nat.le_of_ble_eq_true rfl, Nat.le_of_ble_eq_true rfl⟩ (fun _ _ _ h => VT_no h) (fun v ad1 F1 hp => ?_)
  obtain ⟨rfl, rfl, rfl⟩ := hp
  rw [isB_n 9 (by decide) (by decide)]
  refine V_ifeq (tgt := 25) C dX7_submit_7 (by decide) (fun h1 => ?_) (fun h1 => ?_)
  · refine V_iconst (v := 0) C dX7_submit_25 rfl ?_
    refine V_istore_n C dX7_submit_26 (by decide) ?_
    refine V_aload_n C dX7_submit_27 rfl ?_
    refine V_iload_n C dX7_submit_28 rfl ?_
    refine V_ifne_f (tgt := 36) C dX7_submit_29 (by decide) rfl ?_
    rw [show spSub u a b = (1, 0, u) from if_pos (ite01 h1)] at Q
    refine V_iconst (v := 1) C dX7_submit_32 rfl ?_
    refine V_goto (tgt := 57) C dX7_submit_33 (by decide) ?_
    refine V_invV C dX7_submit_57 hM rfl (m_fails _ _ _ _ _ _ hO) mv_7_101 rfl (Nat.le_of_ble_eq_true rfl) ⟨Nat.le_of_ble_eq_true rfl, Nat.le_of_ble_eq_true rfl⟩ ⟨Nat.le_of_ble_eq_true rfl, Nat.le_of_ble_eq_true rfl⟩ (fun _ _ _ h => VT_no h) (fun v ad1 F1 hp => ?_)
    obtain ⟨rfl, rfl, hO1, hfr⟩ := hp
    refine V_ifeq_f (tgt := 65) C dX7_submit_60 (by decide) (by decide) ?_
    refine V_iconst (v := 0) C dX7_submit_63 rfl ?_
    exact V_ireturn C Q dX7_submit_64 rfl (Nat.le_of_ble_eq_true rfl) (Nat.le_of_ble_eq_true rfl) ⟨rfl, rfl, hM0.th hO1 hfr, fun c hc => ⟨rfl, hfr c (by omega)⟩⟩
  · refine V_iload_n C dX7_submit_10 rfl ?_
    refine V_iconst (v := 1) C dX7_submit_11 rfl ?_
    refine V_sipush (v := 1000) C dX7_submit_12 (by decide) ?_
    refine V_invS C dX7_submit_15 (m_isIn b 1 1000) ms_7_94 rfl (Nat.le_of_ble_eq_true rfl) ⟨Nat.le_of_ble_eq_true rfl, Nat.le_of_ble_eq_true rfl⟩ ⟨Nat.le_of_ble_eq_true rfl, Nat.le_of_ble_eq_true rfl⟩ (fun _ _ _ h => VT_no h) (fun v ad1 F1 hp => ?_)
    obtain ⟨rfl, rfl, rfl⟩ := hp
    refine V_ifeq (tgt := 25) C dX7_submit_18 (by decide) (fun h2 => ?_) (fun h2 => ?_)
    · have i0 := ite01n h1
      refine V_iconst (v := 0) C dX7_submit_25 rfl ?_
      refine V_istore_n C dX7_submit_26 (by decide) ?_
      refine V_aload_n C dX7_submit_27 rfl ?_
      refine V_iload_n C dX7_submit_28 rfl ?_
      refine V_ifne_f (tgt := 36) C dX7_submit_29 (by decide) rfl ?_
      rw [show spSub u a b = (1, 0, u) by unfold spSub; rw [if_neg i0, if_pos (isB_0 h2)]] at Q
      refine V_iconst (v := 1) C dX7_submit_32 rfl ?_
      refine V_goto (tgt := 57) C dX7_submit_33 (by decide) ?_
      refine V_invV C dX7_submit_57 hM rfl (m_fails _ _ _ _ _ _ hO) mv_7_101 rfl (Nat.le_of_ble_eq_true rfl) ⟨Nat.le_of_ble_eq_true rfl, Nat.le_of_ble_eq_true rfl⟩ ⟨Nat.le_of_ble_eq_true rfl, Nat.le_of_ble_eq_true rfl⟩ (fun _ _ _ h => VT_no h) (fun v ad1 F1 hp => ?_)
      obtain ⟨rfl, rfl, hO1, hfr⟩ := hp
      refine V_ifeq_f (tgt := 65) C dX7_submit_60 (by decide) (by decide) ?_
      refine V_iconst (v := 0) C dX7_submit_63 rfl ?_
      exact V_ireturn C Q dX7_submit_64 rfl (Nat.le_of_ble_eq_true rfl) (Nat.le_of_ble_eq_true rfl) ⟨rfl, rfl, hM0.th hO1 hfr, fun c hc => ⟨rfl, hfr c (by omega)⟩⟩
    · have i1 := ite01n h1
      have i2 := isB_1 h2
      obtain ⟨r, hr, rfl⟩ := badI_not (a := a) (n := 9) (by omega) i1
      obtain ⟨life, hlf, rfl⟩ := nI_of2 (n := 1000) (M := 1000) rfl (fun h => i2.1 (Int32.lt_trans h (by decide))) (Int32.not_lt.mp i2.2)
      have er : (nI r).toNatClampNeg = r := nI_clamp (by omega)
      have ef : (nI life).toNatClampNeg = life := nI_clamp (by omega)
      have eo : spSub u (nI r) (nI life) = if (zTxt u).length = 0 ∨ 20 ≤ zMc u then (2, 0, u) else (0, nI (zMc u), nwS u r life) := by unfold spSub; rw [if_neg i1, if_neg (fun h => h.elim i2.1 i2.2), er, ef]
      rw [eo] at Q
      refine V_iconst (v := 1) C dX7_submit_21 rfl ?_
      refine V_goto (tgt := 26) C dX7_submit_22 (by decide) ?_
      refine V_istore_n C dX7_submit_26 (by decide) ?_
      refine V_aload_n C dX7_submit_27 rfl ?_
      refine V_iload_n C dX7_submit_28 rfl ?_
      refine V_ifne_t (tgt := 36) C dX7_submit_29 (by decide) (by decide) ?_
      refine V_aload_n C dX7_submit_36 rfl ?_
      refine V_get C dX7_submit_37 fr_7_98 hM rfl ?_
      refine V_ifeq (tgt := 52) C dX7_submit_40 (by decide) (fun h3 => ?_) (fun h3 => ?_)
      · rw [if_pos (Or.inl ((nI_eq (b := 0) (by omega) (by decide)).mp h3))] at Q
        refine V_iconst (v := 2) C dX7_submit_52 rfl ?_
        refine V_goto (tgt := 57) C dX7_submit_53 (by decide) ?_
        refine V_invV C dX7_submit_57 hM rfl (m_fails _ _ _ _ _ _ hO) mv_7_101 rfl (Nat.le_of_ble_eq_true rfl) ⟨Nat.le_of_ble_eq_true rfl, Nat.le_of_ble_eq_true rfl⟩ ⟨Nat.le_of_ble_eq_true rfl, Nat.le_of_ble_eq_true rfl⟩ (fun _ _ _ h => VT_no h) (fun v ad1 F1 hp => ?_)
        obtain ⟨rfl, rfl, hO1, hfr⟩ := hp
        refine V_ifeq_f (tgt := 65) C dX7_submit_60 (by decide) (by decide) ?_
        refine V_iconst (v := 0) C dX7_submit_63 rfl ?_
        exact V_ireturn C Q dX7_submit_64 rfl (Nat.le_of_ble_eq_true rfl) (Nat.le_of_ble_eq_true rfl) ⟨rfl, rfl, hM0.th hO1 hfr, fun c hc => ⟨rfl, hfr c (by omega)⟩⟩
      · refine V_aload_n C dX7_submit_43 rfl ?_
        refine V_get C dX7_submit_44 fr_7_124 hM rfl ?_
        refine V_bipush (v := 20) C dX7_submit_47 (by decide) ?_
        refine V_icmpne (tgt := 56) C dX7_submit_49 (by decide) (fun h4 => ?_) (fun h4 => ?_)
        · have hne : ¬ ((zTxt u).length = 0 ∨ 20 ≤ zMc u) := fun h => h.elim (fun h => h3 (by rw [h]; rfl)) (fun h => h4 (by rw [show zMc u = 20 by omega]; rfl))
          rw [if_neg hne] at Q
          have hm20 : zMc u < 20 := by omega
          obtain ⟨qq, eq⟩ : ∃ q, q = r % 3 := ⟨_, rfl⟩
          have hq : qq < 3 := by omega
          have h6 := (npL_spec hl4).1
          have hcap := (row_200 hI).1 qq hq
          have hnw := hI.1
          refine V_iconst (v := 0) C dX7_submit_56 rfl ?_
          refine V_invV C dX7_submit_57 hM rfl (m_fails _ _ _ _ _ _ hO) mv_7_101 rfl (Nat.le_of_ble_eq_true rfl) ⟨Nat.le_of_ble_eq_true rfl, Nat.le_of_ble_eq_true rfl⟩ ⟨Nat.le_of_ble_eq_true rfl, Nat.le_of_ble_eq_true rfl⟩ (fun _ _ _ h => VT_no h) (fun v ad1 F1 hp => ?_)
          obtain ⟨rfl, rfl, hO1, hfr⟩ := hp
          have hA : MRep (xD X) ad F1 u 0 := hM0.th hO1 hfr
          have hfrA := hfr
          have hM := hO1
          unfold mObj at hM
          refine V_ifeq_t (tgt := 65) C dX7_submit_60 (by decide) (by decide) ?_
          have r302 := hA.2.1
          obtain ⟨f302, h302, g302⟩ := r302.2.2.2
          obtain ⟨f304, h304⟩ := hA.2.2.2.1
          obtain ⟨f305, h305, g305⟩ := hA.2.2.2.2.1
          obtain ⟨f306, h306, g306⟩ := hA.2.2.2.2.2.1
          obtain ⟨f307, h307, g307⟩ := hA.2.2.2.2.2.2.1
          obtain ⟨f311, h311, g311⟩ := hA.2.2.2.2.2.2.2.2.2.1
          obtain ⟨f313, h313, g313⟩ := hA.2.2.2.2.2.2.2.2.2.2.2.1
          obtain ⟨f315, h315, g315⟩ := hA.2.2.2.2.2.2.2.2.2.2.2.2.2.1
          obtain ⟨f316, h316, g316⟩ := hA.2.2.2.2.2.2.2.2.2.2.2.2.2.2.1
          have h304a := h304
          refine V_aload_n C dX7_submit_65 rfl ?_
          refine V_get C dX7_submit_66 fr_7_124 hM rfl ?_
          refine V_istore C dX7_submit_69 (by decide) ?_
          refine V_iconst (v := 0) C dX7_submit_71 rfl ?_
          refine V_nm (show (0 : Int32) = nI 0 from rfl) ?_
          refine V_istore C dX7_submit_72 (by decide) ?_
          have puts : ∀ (GB : Fn) (f4 f5 : Nat → Int32), mObj ad GB (zNow u) 0 (zMc u + 1) (zRcp u).length 0 → GB 304 = some (aI (xD X) 8000 f4) → (∀ j, j < (zTxt u).length → f4 (400 * zMc u + j) = nI ((zTxt u).getD j 0)) → (∀ i, i < 400 * zMc u → f4 i = f304 i) → GB 305 = some (aI (xD X) 20 f5) → f5 = upd f305 (zMc u) (nI (zTxt u).length) → GB 306 = some (aI (xD X) 20 (upd f306 (zMc u) (nI r))) → GB 307 = some (aI (xD X) 20 (upd f307 (zMc u) (nI (zNow u + life)))) → (∀ x, x ∉ [300, 304, 305, 306, 307] → GB x = F1 x) →
              ∀ (d i : Nat) (H : Fn) (a15 a16 a11 a13 : Nat → Int32), i + d = npL (zTxt u) → H 315 = some (aI (xD X) 3 a15) → H 316 = some (aI (xD X) 600 a16) → H 311 = some (aI (xD X) 200 a11) → H 313 = some (aZ (xD X) 200 a13) → a15 qq = nI ((zRw u (2 * qq)).length + i) → (∀ x, x ≠ qq → a15 x = f315 x) → (∀ j, j < (zRw u (2 * qq)).length + i → a16 (200 * qq + j) = nI ((zRw u (2 * qq) ++ nps (zMc u) i).getD j 0 - 100)) → (∀ x, x < 200 * qq ∨ 200 * qq + 200 ≤ x → a16 x = f316 x) →
              (∀ p, p < i → a11 (10 * zMc u + p) = nI (zNow u)) → (∀ x, x < 10 * zMc u → a11 x = f311 x) → (∀ p, p < i → a13 (10 * zMc u + p) = nI 0) → (∀ x, x < 10 * zMc u → a13 x = f313 x) → (∀ x, x ∉ [311, 313, 315, 316] → H x = GB x) → V X 0 0 160 [(0, .ref (ad 300)), (1, .int (nI r)), (2, .int (nI life)), (4, .int (nI (zMc u))), (5, .int (nI i))] [] ad H := by
            intro GB f4 f5 hOB h304 h41 h42 h305 ef5 h306 h307 hKB d
            have g5 : f5 (zMc u) = nI (zTxt u).length := by rw [ef5, pk_us]
            induction d with
            | zero =>
              intro i H a15 a16 a11 a13 hd h315 h316 h311 h313 b15 b15o b16 b16o b11 b11o b13 b13o hKH
              have hi : i = npL (zTxt u) := by omega
              subst hi
              have hO := hOB.kept (hKH 300 (by decide))
              have hM := hO
              unfold mObj at hM
              have h304 := (hKH 304 (by decide)).trans h304
              have h305 := (hKH 305 (by decide)).trans h305
              have hR4 : RwA (xD X) H 304 8000 (400 * zMc u) (zTxt u) := ⟨by decide, by omega, hxs, f4, h304, h41⟩
              refine V_iload C dX7_submit_160 rfl ?_
              refine V_aload_n C dX7_submit_162 rfl ?_
              refine V_iload C dX7_submit_163 rfl ?_
              refine V_invV C dX7_submit_165 hM rfl (m_partsInR _ _ _ _ _ (zMc u) (zTxt u) f5 hO h305 g5 hm20 hR4 hl4) mv_7_130 rfl (Nat.le_of_ble_eq_true rfl) ⟨Nat.le_of_ble_eq_true rfl, Nat.le_of_ble_eq_true rfl⟩ ⟨Nat.le_of_ble_eq_true rfl, Nat.le_of_ble_eq_true rfl⟩ (fun _ _ _ h => VT_no h) (fun v ad1 F1 hp => ?_)
              obtain ⟨rfl, rfl, rfl⟩ := hp
              refine V_icmpge_t (tgt := 197) C dX7_submit_168 (by decide) (Int32.le_refl _) ?_
              refine V_iload C dX7_submit_197 rfl ?_
              have hz := hA.sub (G := H) (r := r) (life := life) (lk := qq) hI hm20 eq hO ⟨f4, h304, h41, fun m hm j hj => by
                  have hml := ms_len hI hm
                  rw [h42 _ (by omega)]
                  exact (by obtain ⟨-, -, -, f', e', hf'⟩ := hA.2.2.1 m hm; rw [h304a] at e'; cases e'; exact hf' j hj)⟩ ⟨f5, h305, fun k hk => by
                  rw [ef5]
                  show _ = nI (va_up (zMs u) (zMc u) (zTxt u) k).length
                  by_cases e : k = zMc u
                  · subst e; rw [pk_us, up_s]
                  · rw [pk_un e, up_n e]; exact g305 k (by omega)⟩ ⟨_, (hKH 306 (by decide)).trans h306, fun k hk => by
                  show _ = nI (va_up (zRc u) (zMc u) r k)
                  by_cases e : k = zMc u
                  · subst e; rw [pk_us, up_s]
                  · rw [pk_un e, up_n e]; exact g306 k (by omega)⟩ ⟨_, (hKH 307 (by decide)).trans h307, fun k hk => by
                  show _ = nI (va_up (zEn u) (zMc u) (zNow u + life) k)
                  by_cases e : k = zMc u
                  · subst e; rw [pk_us, up_s]
                  · rw [pk_un e, up_n e]; exact g307 k (by omega)⟩ ⟨a11, h311, b11, fun m hm p hp => by
                  have h6q := (npL_spec (ms_len hI hm)).1
                  rw [b11o _ (by omega)]; exact g311 m hm p hp⟩ ⟨a13, h313, b13, fun m hm p hp => by
                  have h6q := (npL_spec (ms_len hI hm)).1
                  rw [b13o _ (by omega)]; exact g313 m hm p hp⟩ ⟨a15, h315, fun j hj => by
                  show _ = nI (va_up (fun j => zRw u (2 * j)) qq (zRw u (2 * qq) ++ nps (zMc u) (npL (zTxt u))) j).length
                  by_cases e : j = qq
                  · subst e; rw [up_s, List.length_append, nps_len]; exact b15
                  · rw [up_n e, b15o j e]; exact g315 j hj⟩ ⟨a16, h316, rw_row g316 (fun j hj => Nat.le_trans ((row_200 hI).1 j hj) (by decide)) (fun j hj => by
                    rw [List.length_append, nps_len] at hj
                    exact b16 j hj) b16o⟩ (fun x hx => (hKH x (by simp at hx ⊢; omega)).trans (hKB x (by simp at hx ⊢; omega)))
              exact V_ireturn C Q dX7_submit_199 rfl (Nat.le_of_ble_eq_true rfl) (Nat.le_of_ble_eq_true rfl) ⟨rfl, rfl, hz, fun c hc => ⟨rfl, ((hKH c (by simp; omega)).trans (hKB c (by simp; omega))).trans (hfrA c (by omega))⟩⟩
            | succ d ih =>
              intro i H a15 a16 a11 a13 hd h315 h316 h311 h313 b15 b15o b16 b16o b11 b11o b13 b13o hKH
              have hO := hOB.kept (hKH 300 (by decide))
              have hM := hO
              unfold mObj at hM
              have h304 := (hKH 304 (by decide)).trans h304
              have h305 := (hKH 305 (by decide)).trans h305
              have hR4 : RwA (xD X) H 304 8000 (400 * zMc u) (zTxt u) := ⟨by decide, by omega, hxs, f4, h304, h41⟩
              refine V_iload C dX7_submit_160 rfl ?_
              refine V_aload_n C dX7_submit_162 rfl ?_
              refine V_iload C dX7_submit_163 rfl ?_
              refine V_invV C dX7_submit_165 hM rfl (m_partsInR _ _ _ _ _ (zMc u) (zTxt u) f5 hO h305 g5 hm20 hR4 hl4) mv_7_130 rfl (Nat.le_of_ble_eq_true rfl) ⟨Nat.le_of_ble_eq_true rfl, Nat.le_of_ble_eq_true rfl⟩ ⟨Nat.le_of_ble_eq_true rfl, Nat.le_of_ble_eq_true rfl⟩ (fun _ _ _ h => VT_no h) (fun v ad1 F1 hp => ?_)
              obtain ⟨rfl, rfl, rfl⟩ := hp
              refine V_icmpge_f (tgt := 197) C dX7_submit_168 (by decide) (nI_ge (by omega) (by omega)) ?_
              refine V_aload_n C dX7_submit_171 rfl ?_
              refine V_iload_n C dX7_submit_172 rfl ?_
              refine V_iconst (v := 3) C dX7_submit_173 rfl ?_
              refine V_irem C dX7_submit_174 (by decide) ?_
              refine V_nm (pk_rem (a := r) (d := 3) (by omega) (by decide) (by decide)) ?_
              rw [← eq]
              refine V_bipush (v := 10) C dX7_submit_175 (by decide) ?_
              refine V_iload C dX7_submit_177 rfl ?_
              refine V_imul C dX7_submit_179 ?_
              refine V_nm (pk_mul 10 (zMc u)) ?_
              refine V_iload C dX7_submit_180 rfl ?_
              refine V_iadd C dX7_submit_182 ?_
              refine V_nm (nI_add _ i) ?_
              refine V_aload_n C dX7_submit_183 rfl ?_
              refine V_get C dX7_submit_184 fr_7_127 hM rfl ?_
              refine V_iconst (v := 0) C dX7_submit_187 rfl ?_
              refine V_nm (show (0 : Int32) = nI 0 from rfl) ?_
              refine V_invV C dX7_submit_188 hM rfl (m_puts _ _ _ _ _ qq ((zRw u (2 * qq)).length + i) (10 * zMc u + i) (zNow u) 0 a15 a16 a11 a13 hO h315 h316 h311 h313 b15 hq (by omega) (by omega) (by decide)) mv_7_133 rfl (Nat.le_of_ble_eq_true rfl) ⟨Nat.le_of_ble_eq_true rfl, Nat.le_of_ble_eq_true rfl⟩ ⟨Nat.le_of_ble_eq_true rfl, Nat.le_of_ble_eq_true rfl⟩ (fun _ _ _ h => VT_no h) (fun v ad1 H1 hp => ?_)
              obtain ⟨rfl, rfl, h315, h316, h311, h313, hK1⟩ := hp
              refine V_iinc C dX7_submit_191 rfl (nI_inc _) (by decide) ?_
              refine V_goto (tgt := 160) C dX7_submit_194 (by decide) ?_
              refine V_sb (ih (i + 1) H1 _ _ _ _ (by omega) h315 h316 h311 h313 pk_us (fun x hx => (pk_un hx).trans (b15o x hx)) (fun j hj => ?_) (fun x hx => by rw [pk_un (by omega)]; exact b16o x hx) (fun p hp => ?_) (fun x hx => by rw [pk_un (by omega)]; exact b11o x hx) (fun p hp => ?_) (fun x hx => by rw [pk_un (by omega)]; exact b13o x hx) (fun x hx => (hK1 x hx).trans (hKH x hx))) ⟨rfl, rfl, rfl, rfl, rfl, trivial⟩
              · rw [nps_suc, ← List.append_assoc, getD_app, List.length_append, nps_len]
                by_cases e : j = (zRw u (2 * qq)).length + i
                · rw [if_pos e, e, pk_us]; exact congrArg nI (by omega)
                · rw [if_neg e, pk_un (by omega)]; exact b16 j (by omega)
              · by_cases e : p = i
                · subst e; exact pk_us
                · rw [pk_un (by omega)]; exact b11 p (by omega)
              · by_cases e : p = i
                · subst e; exact pk_us
                · rw [pk_un (by omega)]; exact b13 p (by omega)
          have copy : ∀ (d k : Nat) (G : Fn) (f : Nat → Int32), k + d = (zTxt u).length → G 304 = some (aI (xD X) 8000 f) → (∀ j, j < k → f (400 * zMc u + j) = nI ((zTxt u).getD j 0)) → (∀ i, i < 400 * zMc u → f i = f304 i) → (∀ x, x ≠ 304 → G x = F1 x) →
              V X 0 0 74 [(0, .ref (ad 300)), (1, .int (nI r)), (2, .int (nI life)), (4, .int (nI (zMc u))), (5, .int (nI k))] [] ad G := by
            intro d
            induction d with
            | zero =>
              intro k G f hd h304 hf hfo hKG
              have hk : k = (zTxt u).length := by omega
              subst hk
              have hM := (hKG 300 (by decide)).trans hM
              have h305 := (hKG 305 (by decide)).trans h305
              have h306 := (hKG 306 (by decide)).trans h306
              have h307 := (hKG 307 (by decide)).trans h307
              have hK : ∀ x, x ∉ [300, 304, 305, 306, 307] → G x = F1 x := fun x hx => hKG x (by simp at hx; omega)
              refine V_iload C dX7_submit_74 rfl ?_
              refine V_aload_n C dX7_submit_76 rfl ?_
              refine V_get C dX7_submit_77 fr_7_98 hM rfl ?_
              refine V_icmpge_t (tgt := 110) C dX7_submit_80 (by decide) (Int32.le_refl _) ?_
              refine V_aload_n C dX7_submit_110 rfl ?_
              refine V_get C dX7_submit_111 fr_7_16 hM rfl ?_
              refine V_iload C dX7_submit_114 rfl ?_
              refine V_aload_n C dX7_submit_116 rfl ?_
              refine V_get C dX7_submit_117 fr_7_98 hM rfl ?_
              refine G_iast C dX7_submit_120 h305 rfl hm20 (by decide) (fun G1 h305 hfr => ?_)
              have hM := (hfr _ (by omega)).trans hM
              have h304 := (hfr _ (by omega)).trans h304
              have h306 := (hfr _ (by omega)).trans h306
              have h307 := (hfr _ (by omega)).trans h307
              have hK := fr_step hK hfr (by decide)
              refine V_aload_n C dX7_submit_121 rfl ?_
              refine V_get C dX7_submit_122 fr_7_19 hM rfl ?_
              refine V_iload C dX7_submit_125 rfl ?_
              refine V_iload_n C dX7_submit_127 rfl ?_
              refine G_iast C dX7_submit_128 h306 rfl hm20 (by decide) (fun G2 h306 hfr => ?_)
              have hM := (hfr _ (by omega)).trans hM
              have h304 := (hfr _ (by omega)).trans h304
              have h305 := (hfr _ (by omega)).trans h305
              have h307 := (hfr _ (by omega)).trans h307
              have hK := fr_step hK hfr (by decide)
              refine V_aload_n C dX7_submit_129 rfl ?_
              refine V_get C dX7_submit_130 fr_7_22 hM rfl ?_
              refine V_iload C dX7_submit_133 rfl ?_
              refine V_aload_n C dX7_submit_135 rfl ?_
              refine V_get C dX7_submit_136 fr_7_127 hM rfl ?_
              refine V_iload_n C dX7_submit_139 rfl ?_
              refine V_iadd C dX7_submit_140 ?_
              refine V_nm (nI_add _ _) ?_
              refine G_iast C dX7_submit_141 h307 rfl hm20 (by decide) (fun G3 h307 hfr => ?_)
              have hM := (hfr _ (by omega)).trans hM
              have h304 := (hfr _ (by omega)).trans h304
              have h305 := (hfr _ (by omega)).trans h305
              have h306 := (hfr _ (by omega)).trans h306
              have hK := fr_step hK hfr (by decide)
              refine V_aload_n C dX7_submit_142 rfl ?_
              refine V_dup C dX7_submit_143 rfl ?_
              refine V_get C dX7_submit_144 fr_7_124 hM rfl ?_
              refine V_iconst (v := 1) C dX7_submit_147 rfl ?_
              refine V_iadd C dX7_submit_148 ?_
              refine V_nm (nI_1 _) ?_
              refine G_put C dX7_submit_149 fp_7_124 hM rfl rfl (Nat.le_of_ble_eq_true rfl) (fun G4 hM hfr => ?_)
              dsimp only [List.set] at hM
              have h304 := (hfr _ (by omega)).trans h304
              have h305 := (hfr _ (by omega)).trans h305
              have h306 := (hfr _ (by omega)).trans h306
              have h307 := (hfr _ (by omega)).trans h307
              have hK := fr_step hK hfr (by decide)
              refine V_aload_n C dX7_submit_152 rfl ?_
              refine V_iconst (v := 0) C dX7_submit_153 rfl ?_
              refine V_nm (show (0 : Int32) = nI 0 from rfl) ?_
              refine G_put C dX7_submit_154 fp_7_98 hM rfl rfl (Nat.le_of_ble_eq_true rfl) (fun G5 hM hfr => ?_)
              dsimp only [List.set] at hM
              have h304 := (hfr _ (by omega)).trans h304
              have h305 := (hfr _ (by omega)).trans h305
              have h306 := (hfr _ (by omega)).trans h306
              have h307 := (hfr _ (by omega)).trans h307
              have hK := fr_step hK hfr (by decide)
              refine V_iconst (v := 0) C dX7_submit_157 rfl ?_
              refine V_nm (show (0 : Int32) = nI 0 from rfl) ?_
              refine V_istore C dX7_submit_158 (by decide) ?_
              refine V_sb (puts G5 _ _ hM h304 hf hfo h305 rfl h306 h307 hK (npL (zTxt u)) 0 G5 f315 f316 f311 f313 (Nat.zero_add _) ((hK 315 (by decide)).trans h315) ((hK 316 (by decide)).trans h316) ((hK 311 (by decide)).trans h311) ((hK 313 (by decide)).trans h313) (g315 qq hq) (fun _ _ => rfl) (fun j hj => ?_) (fun _ _ => rfl) (fun p hp => absurd hp (Nat.not_lt_zero p)) (fun _ _ => rfl) (fun p hp => absurd hp (Nat.not_lt_zero p)) (fun _ _ => rfl) (fun _ _ => rfl)) ⟨rfl, rfl, rfl, rfl, rfl, trivial⟩
              rw [show nps (zMc u) 0 = [] from rfl, List.append_nil]
              exact g316 qq hq j hj
            | succ d ih =>
              intro k G f hd h304 hf hfo hKG
              have hM := (hKG 300 (by decide)).trans hM
              have h302 := (hKG 302 (by decide)).trans h302
              have gk := g302 k (by omega)
              rw [Nat.zero_add] at gk
              refine V_iload C dX7_submit_74 rfl ?_
              refine V_aload_n C dX7_submit_76 rfl ?_
              refine V_get C dX7_submit_77 fr_7_98 hM rfl ?_
              refine V_icmpge_f (tgt := 110) C dX7_submit_80 (by decide) (nI_ge (by omega) (by omega)) ?_
              refine V_aload_n C dX7_submit_83 rfl ?_
              refine V_get C dX7_submit_84 fr_7_13 hM rfl ?_
              refine V_sipush (v := 400) C dX7_submit_87 (by decide) ?_
              refine V_iload C dX7_submit_90 rfl ?_
              refine V_imul C dX7_submit_92 ?_
              refine V_nm (pk_mul 400 _) ?_
              refine V_iload C dX7_submit_93 rfl ?_
              refine V_iadd C dX7_submit_95 ?_
              refine V_nm (nI_add _ k) ?_
              refine V_aload_n C dX7_submit_96 rfl ?_
              refine V_get C dX7_submit_97 fr_7_7 hM rfl ?_
              refine V_iload C dX7_submit_100 rfl ?_
              refine V_iald C dX7_submit_102 h302 rfl (show k < 400 by omega) (by decide) ?_
              refine V_nm gk ?_
              refine G_iast C dX7_submit_103 h304 rfl (show 400 * zMc u + k < 8000 by omega) (by decide) (fun G1 h304 hfr => ?_)
              refine V_iinc C dX7_submit_104 rfl (nI_inc _) (by decide) ?_
              refine V_goto (tgt := 74) C dX7_submit_107 (by decide) ?_
              refine V_sb (ih (k + 1) G1 _ (by omega) h304 (fun j hj => ?_) (fun i hi => by rw [pk_un (by omega)]; exact hfo i hi) (fun x hx => (hfr x hx).trans (hKG x hx))) ⟨rfl, rfl, rfl, rfl, rfl, trivial⟩
              by_cases e : j = k
              · subst e; exact pk_us
              · rw [pk_un (by omega)]; exact hf j (by omega)
          exact V_sb (copy (zTxt u).length 0 F1 f304 (Nat.zero_add _) h304 (fun j hj => absurd hj (Nat.not_lt_zero j)) (fun _ _ => rfl) (fun _ _ => rfl)) ⟨rfl, rfl, rfl, rfl, rfl, trivial⟩
        · rw [if_pos (Or.inr (by have := (nI_eq (b := 20) (by omega) (by decide)).mp h4; omega))] at Q
          refine V_iconst (v := 2) C dX7_submit_52 rfl ?_
          refine V_goto (tgt := 57) C dX7_submit_53 (by decide) ?_
          refine V_invV C dX7_submit_57 hM rfl (m_fails _ _ _ _ _ _ hO) mv_7_101 rfl (Nat.le_of_ble_eq_true rfl) ⟨Nat.le_of_ble_eq_true rfl, Nat.le_of_ble_eq_true rfl⟩ ⟨Nat.le_of_ble_eq_true rfl, Nat.le_of_ble_eq_true rfl⟩ (fun _ _ _ h => VT_no h) (fun v ad1 F1 hp => ?_)
          obtain ⟨rfl, rfl, hO1, hfr⟩ := hp
          refine V_ifeq_f (tgt := 65) C dX7_submit_60 (by decide) (by decide) ?_
          refine V_iconst (v := 0) C dX7_submit_63 rfl ?_
          exact V_ireturn C Q dX7_submit_64 rfl (Nat.le_of_ble_eq_true rfl) (Nat.le_of_ble_eq_true rfl) ⟨rfl, rfl, hM0.th hO1 hfr, fun c hc => ⟨rfl, hfr c (by omega)⟩⟩
