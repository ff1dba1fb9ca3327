/-! ===== the model's calls that only tell ===== -/
/-- the class's cells stay -/
def FrM (ad : Nat → Nat) (F : Fn) (ad1 : Nat → Nat) (F1 : Fn) : Prop := ∀ c, (c < 300 ∨ 400 ≤ c) → ad1 c = ad c ∧ F1 c = F c
/-- an answer of the model: what is thrown stands in it -/
def PoM (D : Dx) (ad : Nat → Nat) (F : Fn) (r : Ans) : Pst := fun v ad1 F1 => v = some (.int r.2.1) ∧ ad = ad1 ∧ MRep D ad1 F1 r.2.2 (nI r.1) ∧ FrM ad F ad1 F1
set_option maxHeartbeats 400000 in
set_option maxRecDepth 100000 in
/-- time -/
theorem m_time {l : Launch} {D : Dx} {b0 : Nat} {ad : Nat → Nat} {F : Fn} (u : St) (th : Int32) (hM0 : MRep D ad F u th) : Ct l D b0 yX7_time (wsA yX7_time cX7_time 1 (some .int)) (rK 1) [.ref (ad 300)] ad F (PoM D ad F (spTime u)) noX := by
  refine Ct.of (by decide +kernel) (by simp [Value.category]) (Nat.le_of_ble_eq_true rfl) (fun X eD eb el C Q => ?_)
  subst eD; subst eb; subst el
  have hO := hM0.1
  have hM := hO
  unfold mObj at hM
  refine V_aload_n C dX7_time_0 rfl ?_
  refine V_aload_n C dX7_time_1 rfl ?_
  refine V_get C dX7_time_2 fr_7_127 hM rfl ?_
  refine V_invV C dX7_time_5 hM rfl (m_tells _ _ _ _ _ _ hO) mv_7_108 rfl (Nat.le_of_ble_eq_true rfl) ⟨Nat.le_of_ble_eq_true rfl, Nat.le_of_ble_eq_true rfl⟩ ⟨Nat.le_of_ble_eq_true rfl, Nat.le_of_ble_eq_true rfl⟩ (fun _ _ _ h => VT_no h) (fun v ad1 F1 hp => ?_)
  obtain ⟨rfl, rfl, hO1, hfr⟩ := hp
  exact V_ireturn C Q dX7_time_8 rfl (Nat.le_of_ble_eq_true rfl) (Nat.le_of_ble_eq_true rfl) ⟨rfl, rfl, hM0.th hO1 hfr, fun c hc => ⟨rfl, hfr c (by omega)⟩⟩
set_option maxHeartbeats 400000 in
set_option maxRecDepth 100000 in
/-- receipts -/
theorem m_receipts {l : Launch} {D : Dx} {b0 : Nat} {ad : Nat → Nat} {F : Fn} (u : St) (th : Int32) (hM0 : MRep D ad F u th) : Ct l D b0 yX7_receipts (wsA yX7_receipts cX7_receipts 1 (some .int)) (rK 1) [.ref (ad 300)] ad F (PoM D ad F (spRcps u)) noX := by
  refine Ct.of (by decide +kernel) (by simp [Value.category]) (Nat.le_of_ble_eq_true rfl) (fun X eD eb el C Q => ?_)
  subst eD; subst eb; subst el
  have hO := hM0.1
  have hM := hO
  unfold mObj at hM
  refine V_aload_n C dX7_receipts_0 rfl ?_
  refine V_aload_n C dX7_receipts_1 rfl ?_
  refine V_get C dX7_receipts_2 fr_7_143 hM rfl ?_
  refine V_invV C dX7_receipts_5 hM rfl (m_tells _ _ _ _ _ _ hO) mv_7_108 rfl (Nat.le_of_ble_eq_true rfl) ⟨Nat.le_of_ble_eq_true rfl, Nat.le_of_ble_eq_true rfl⟩ ⟨Nat.le_of_ble_eq_true rfl, Nat.le_of_ble_eq_true rfl⟩ (fun _ _ _ h => VT_no h) (fun v ad1 F1 hp => ?_)
  obtain ⟨rfl, rfl, hO1, hfr⟩ := hp
  exact V_ireturn C Q dX7_receipts_8 rfl (Nat.le_of_ble_eq_true rfl) (Nat.le_of_ble_eq_true rfl) ⟨rfl, rfl, hM0.th hO1 hfr, fun c hc => ⟨rfl, hfr c (by omega)⟩⟩
set_option maxHeartbeats 400000 in
set_option maxRecDepth 100000 in
/-- parts -/
theorem m_parts {l : Launch} {D : Dx} {b0 : Nat} {ad : Nat → Nat} {F : Fn} (u : St) (th : Int32) (hM0 : MRep D ad F u th) (hl4 : (zTxt u).length ≤ 400) : Ct l D b0 yX7_parts (wsA yX7_parts cX7_parts 1 (some .int)) (rK 4) [.ref (ad 300)] ad F (PoM D ad F (spParts u)) noX := by
  refine Ct.of (by decide +kernel) (by simp [Value.category]) (Nat.le_of_ble_eq_true rfl) (fun X eD eb el C Q => ?_)
  subst eD; subst eb; subst el
  have hO := hM0.1
  have hM := hO
  unfold mObj at hM
  refine V_aload_n C dX7_parts_0 rfl ?_
  refine V_aload_n C dX7_parts_1 rfl ?_
  refine V_get C dX7_parts_2 fr_7_7 hM rfl ?_
  refine V_iconst (v := 0) C dX7_parts_5 rfl ?_
  refine V_nm (show (0 : Int32) = nI 0 from rfl) ?_
  refine V_aload_n C dX7_parts_6 rfl ?_
  refine V_get C dX7_parts_7 fr_7_98 hM rfl ?_
  refine V_invS C dX7_parts_10 (m_partsOf 302 400 0 (zTxt u) hM0.2.1 hl4) ms_7_105 rfl (Nat.le_of_ble_eq_true rfl) ⟨Nat.le_of_ble_eq_true rfl, Nat.le_of_ble_eq_true rfl⟩ ⟨Nat.le_of_ble_eq_true rfl, Nat.le_of_ble_eq_true rfl⟩ (fun _ _ _ h => VT_no h) (fun v ad1 F1 hp => ?_)
  obtain ⟨rfl, rfl, rfl⟩ := hp
  refine V_invV C dX7_parts_13 hM rfl (m_tells _ _ _ _ _ _ hO) mv_7_108 rfl (Nat.le_of_ble_eq_true rfl) ⟨Nat.le_of_ble_eq_true rfl, Nat.le_of_ble_eq_true rfl⟩ ⟨Nat.le_of_ble_eq_true rfl, Nat.le_of_ble_eq_true rfl⟩ (fun _ _ _ h => VT_no h) (fun v ad1 F1 hp => ?_)
  obtain ⟨rfl, rfl, hO1, hfr⟩ := hp
  exact V_ireturn C Q dX7_parts_16 rfl (Nat.le_of_ble_eq_true rfl) (Nat.le_of_ble_eq_true rfl) ⟨rfl, rfl, hM0.th hO1 hfr, fun c hc => ⟨rfl, hfr c (by omega)⟩⟩
set_option maxHeartbeats 400000 in
set_option maxRecDepth 100000 in
/-- isWide -/
theorem m_isWide {l : Launch} {D : Dx} {b0 : Nat} {ad : Nat → Nat} {F : Fn} (u : St) (th : Int32) (hM0 : MRep D ad F u th) : Ct l D b0 yX7_isWide (wsA yX7_isWide cX7_isWide 1 (some .boolean)) (rK 1) [.ref (ad 300)] ad F (PoM D ad F (spWide u)) noX := by
  refine Ct.of (by decide +kernel) (by simp [Value.category]) (Nat.le_of_ble_eq_true rfl) (fun X eD eb el C Q => ?_)
  subst eD; subst eb; subst el
  have hO := hM0.1
  have hM := hO
  unfold mObj at hM
  refine V_aload_n C dX7_isWide_0 rfl ?_
  refine V_iconst (v := 0) C dX7_isWide_1 rfl ?_
  refine G_put C dX7_isWide_2 fp_7_74 hM rfl rfl (Nat.le_of_ble_eq_true rfl) (fun F1 hM hfr => ?_)
  dsimp only [List.set] at hM
  have hO1 : mObj ad F1 (zNow u) (zTxt u).length (zMc u) (zRcp u).length (nI 0) := hM
  have h1 := hM0.th hO1 hfr
  refine V_aload_n C dX7_isWide_5 rfl ?_
  refine V_get C dX7_isWide_6 fr_7_7 hM rfl ?_
  refine V_iconst (v := 0) C dX7_isWide_9 rfl ?_
  refine V_nm (show (0 : Int32) = nI 0 from rfl) ?_
  refine V_aload_n C dX7_isWide_10 rfl ?_
  refine V_get C dX7_isWide_11 fr_7_98 hM rfl ?_
  refine V_invS C dX7_isWide_14 (m_hasWide 302 400 0 (zTxt u) h1.2.1) ms_7_82 rfl (Nat.le_of_ble_eq_true rfl) ⟨Nat.le_of_ble_eq_true rfl, Nat.le_of_ble_eq_true rfl⟩ ⟨Nat.le_of_ble_eq_true rfl, Nat.le_of_ble_eq_true rfl⟩ (fun _ _ _ h => VT_no h) (fun v ad1 F1 hp => ?_)
  obtain ⟨rfl, rfl, rfl⟩ := hp
  exact V_ireturn C Q dX7_isWide_17 (b2i_nar _) (Nat.le_of_ble_eq_true rfl) (Nat.le_of_ble_eq_true rfl) ⟨rfl, rfl, h1, fun c hc => ⟨rfl, hfr c (by omega)⟩⟩
theorem MRep.sg {D : Dx} {ad : Nat → Nat} {F G : Fn} {u : St} {th a : Int32} (h : MRep D ad F u th) (hO1 : mObj ad G (zNow u) 0 (zMc u) (zRcp u).length a) (hK : ∀ x, x ≠ 300 → G x = F x) : MRep D ad G (sTxt u []) a := by
  obtain ⟨k0, k1, k2, k3, k4, k5, k6, k7, k8, k9, k10, k11, k12, k13, k14, k15, k16, k17, k18, k19, k20, k21, k22⟩ := h
  exact ⟨hO1, ⟨k1.1, (show 0 + 0 ≤ 400 by decide), fun x hx => absurd hx List.not_mem_nil, k1.2.2.2.imp fun f hf => ⟨(hK _ (by decide)).trans hf.1, fun j hj => absurd hj (Nat.not_lt_zero j)⟩⟩, fun m hm => (k2 m hm).kept (hK _ (by decide)), k3.imp fun f hf => (hK _ (by decide)).trans hf, k4.kept (hK _ (by decide)), k5.kept (hK _ (by decide)), k6.kept (hK _ (by decide)), k7.kept (hK _ (by decide)), k8.kept (hK _ (by decide)), k9.kept (hK _ (by decide)), k10.kept (hK _ (by decide)), k11.kept (hK _ (by decide)), k12.kept (hK _ (by decide)), k13.kept (hK _ (by decide)), k14.kept (hK _ (by decide)), k15.kept (hK _ (by decide)), k16.kept (hK _ (by decide)), k17.kept (hK _ (by decide)), k18.kept (hK _ (by decide)), k19.kept (hK _ (by decide)), k20.kept (hK _ (by decide)), k21.kept (hK _ (by decide)), k22.kept (hK _ (by decide))⟩
set_option maxHeartbeats 400000 in
set_option maxRecDepth 100000 in
/-- erase -/
theorem m_erase {l : Launch} {D : Dx} {b0 : Nat} {ad : Nat → Nat} {F : Fn} (u : St) (th : Int32) (hM0 : MRep D ad F u th) : Ct l D b0 yX7_erase (wsA yX7_erase cX7_erase 2 (some .int)) r0 [.ref (ad 300)] ad F (PoM D ad F (spErase u)) noX := by
  refine Ct.of (by decide +kernel) (by simp [Value.category]) (Nat.le_of_ble_eq_true rfl) (fun X eD eb el C Q => ?_)
  subst eD; subst eb; subst el
  have hO := hM0.1
  have hM := hO
  unfold mObj at hM
  refine V_aload_n C dX7_erase_0 rfl ?_
  refine V_iconst (v := 0) C dX7_erase_1 rfl ?_
  refine G_put C dX7_erase_2 fp_7_74 hM rfl rfl (Nat.le_of_ble_eq_true rfl) (fun F1 hM hfr => ?_)
  dsimp only [List.set] at hM
  have hfr1 := hfr
  refine V_aload_n C dX7_erase_5 rfl ?_
  refine V_get C dX7_erase_6 fr_7_98 hM rfl ?_
  refine V_istore_n C dX7_erase_9 (by decide) ?_
  refine V_aload_n C dX7_erase_10 rfl ?_
  refine V_iconst (v := 0) C dX7_erase_11 rfl ?_
  refine G_put C dX7_erase_12 fp_7_98 hM rfl rfl (Nat.le_of_ble_eq_true rfl) (fun F2 hM hfr => ?_)
  dsimp only [List.set] at hM
  have hO1 : mObj ad F2 (zNow u) 0 (zMc u) (zRcp u).length (nI 0) := hM
  have hK : ∀ x, x ≠ 300 → F2 x = F x := fun x hx => (hfr x hx).trans (hfr1 x hx)
  refine V_iload_n C dX7_erase_15 rfl ?_
  exact V_ireturn C Q dX7_erase_16 rfl (Nat.le_of_ble_eq_true rfl) (Nat.le_of_ble_eq_true rfl) ⟨rfl, rfl, hM0.sg hO1 hK, fun c hc => ⟨rfl, hK c (by omega)⟩⟩
set_option maxHeartbeats 400000 in
set_option maxRecDepth 100000 in
/-- septets -/
theorem m_septets {l : Launch} {D : Dx} {b0 : Nat} {ad : Nat → Nat} {F : Fn} (u : St) (th : Int32) (hM0 : MRep D ad F u th) : Ct l D b0 yX7_septets (wsA yX7_septets cX7_septets 1 (some .int)) (rK 2) [.ref (ad 300)] ad F (PoM D ad F (spSept u)) noX := by
  refine Ct.of (by decide +kernel) (by simp [Value.category]) (Nat.le_of_ble_eq_true rfl) (fun X eD eb el C Q => ?_)
  subst eD; subst eb; subst el
  have hO := hM0.1
  have hM := hO
  unfold mObj at hM
  refine V_aload_n C dX7_septets_0 rfl ?_
  refine V_aload_n C dX7_septets_1 rfl ?_
  refine V_get C dX7_septets_2 fr_7_7 hM rfl ?_
  refine V_iconst (v := 0) C dX7_septets_5 rfl ?_
  refine V_nm (show (0 : Int32) = nI 0 from rfl) ?_
  refine V_aload_n C dX7_septets_6 rfl ?_
  refine V_get C dX7_septets_7 fr_7_98 hM rfl ?_
  refine V_invS C dX7_septets_10 (m_hasWide 302 400 0 (zTxt u) hM0.2.1) ms_7_82 rfl (Nat.le_of_ble_eq_true rfl) ⟨Nat.le_of_ble_eq_true rfl, Nat.le_of_ble_eq_true rfl⟩ ⟨Nat.le_of_ble_eq_true rfl, Nat.le_of_ble_eq_true rfl⟩ (fun _ _ _ h => VT_no h) (fun v ad1 F1 hp => ?_)
  obtain ⟨rfl, rfl, rfl⟩ := hp
  refine V_ifeq (tgt := 20) C dX7_septets_13 (by decide) (fun h1 => ?_) (fun h1 => ?_)
  · rw [show spSept u = (0, nI (septL (zTxt u)), u) from if_neg (wide_fa h1)] at Q
    refine V_iconst (v := 0) C dX7_septets_20 rfl ?_
    refine V_invV C dX7_septets_21 hM rfl (m_fails _ _ _ _ _ _ hO) mv_7_101 rfl (Nat.le_of_ble_eq_true rfl) ⟨Nat.le_of_ble_eq_true rfl, Nat.le_of_ble_eq_true rfl⟩ ⟨Nat.le_of_ble_eq_true rfl, Nat.le_of_ble_eq_true rfl⟩ (fun _ _ _ h => VT_no h) (fun v ad1 F1 hp => ?_)
    obtain ⟨rfl, rfl, hO1, hfr⟩ := hp
    have hA : MRep (xD X) ad F1 u 0 := hM0.th hO1 hfr
    have hfrA := hfr
    have hM := hO1
    unfold mObj at hM
    refine V_ifeq_t (tgt := 31) C dX7_septets_24 (by decide) (by decide) ?_
    refine V_aload_n C dX7_septets_31 rfl ?_
    refine V_get C dX7_septets_32 fr_7_7 hM rfl ?_
    refine V_iconst (v := 0) C dX7_septets_35 rfl ?_
    refine V_nm (show (0 : Int32) = nI 0 from rfl) ?_
    refine V_aload_n C dX7_septets_36 rfl ?_
    refine V_get C dX7_septets_37 fr_7_98 hM rfl ?_
    refine V_invS C dX7_septets_40 (m_septetsIn 302 400 0 (zTxt u) hA.2.1) ms_7_86 rfl (Nat.le_of_ble_eq_true rfl) ⟨Nat.le_of_ble_eq_true rfl, Nat.le_of_ble_eq_true rfl⟩ ⟨Nat.le_of_ble_eq_true rfl, Nat.le_of_ble_eq_true rfl⟩ (fun _ _ _ h => VT_no h) (fun v ad1 F1 hp => ?_)
    obtain ⟨rfl, rfl, rfl⟩ := hp
    exact V_ireturn C Q dX7_septets_43 rfl (Nat.le_of_ble_eq_true rfl) (Nat.le_of_ble_eq_true rfl) ⟨rfl, rfl, hA, fun c hc => ⟨rfl, hfrA c (by omega)⟩⟩
  · rw [show spSept u = (1, 0, u) from if_pos (wide_tr h1)] at Q
    refine V_iconst (v := 1) C dX7_septets_16 rfl ?_
    refine V_goto (tgt := 21) C dX7_septets_17 (by decide) ?_
    refine V_invV C dX7_septets_21 hM rfl (m_fails _ _ _ _ _ _ hO) mv_7_101 rfl (Nat.le_of_ble_eq_true rfl) ⟨Nat.le_of_ble_eq_true rfl, Nat.le_of_ble_eq_true rfl⟩ ⟨Nat.le_of_ble_eq_true rfl, Nat.le_of_ble_eq_true rfl⟩ (fun _ _ _ h => VT_no h) (fun v ad1 F1 hp => ?_)
    obtain ⟨rfl, rfl, hO1, hfr⟩ := hp
    refine V_ifeq_f (tgt := 31) C dX7_septets_24 (by decide) (by decide) ?_
    refine V_iconst (v := 0) C dX7_septets_27 rfl ?_
    refine V_goto (tgt := 43) C dX7_septets_28 (by decide) ?_
    exact V_ireturn C Q dX7_septets_43 rfl (Nat.le_of_ble_eq_true rfl) (Nat.le_of_ble_eq_true rfl) ⟨rfl, rfl, hM0.th hO1 hfr, fun c hc => ⟨rfl, hfr c (by omega)⟩⟩
set_option maxHeartbeats 400000 in
set_option maxRecDepth 100000 in
/-- isPart -/
theorem m_isPart {l : Launch} {D : Dx} {b0 : Nat} {ad : Nat → Nat} {F : Fn} (u : St) (th : Int32) (a : Int32) (hM0 : MRep D ad F u th) (hl4 : (zTxt u).length ≤ 400) : Ct l D b0 yX7_isPart (wsA yX7_isPart cX7_isPart 2 (some .boolean)) (rK 4) [.ref (ad 300), .int a] ad F (pRd (some (.int (if a < 0 ∨ nI (npL (zTxt u)) ≤ a then 0 else 1))) ad F) noX := by
  refine Ct.of (by decide +kernel) (by simp [Value.category]) (Nat.le_of_ble_eq_true rfl) (fun X eD eb el C Q => ?_)
  subst eD; subst eb; subst el
  have hO := hM0.1
  have hM := hO
  unfold mObj at hM
  refine V_iload_n C dX7_isPart_0 rfl ?_
  refine V_iflt (tgt := 24) C dX7_isPart_1 (by decide) (fun h1 => ?_) (fun h1 => ?_)
  · rw [if_pos (Or.inl h1)] at Q
    refine V_iconst (v := 0) C dX7_isPart_24 rfl ?_
    exact V_ireturn C Q dX7_isPart_25 rfl (Nat.le_of_ble_eq_true rfl) (Nat.le_of_ble_eq_true rfl) ⟨rfl, rfl, rfl⟩
  · refine V_iload_n C dX7_isPart_4 rfl ?_
    refine V_aload_n C dX7_isPart_5 rfl ?_
    refine V_get C dX7_isPart_6 fr_7_7 hM rfl ?_
    refine V_iconst (v := 0) C dX7_isPart_9 rfl ?_
    refine V_nm (show (0 : Int32) = nI 0 from rfl) ?_
    refine V_aload_n C dX7_isPart_10 rfl ?_
    refine V_get C dX7_isPart_11 fr_7_98 hM rfl ?_
    refine V_invS C dX7_isPart_14 (m_partsOf 302 400 0 (zTxt u) hM0.2.1 hl4) ms_7_105 rfl (Nat.le_of_ble_eq_true rfl) ⟨Nat.le_of_ble_eq_true rfl, Nat.le_of_ble_eq_true rfl⟩ ⟨Nat.le_of_ble_eq_true rfl, Nat.le_of_ble_eq_true rfl⟩ (fun _ _ _ h => VT_no h) (fun v ad1 F1 hp => ?_)
    obtain ⟨rfl, rfl, rfl⟩ := hp
    refine V_icmpge (tgt := 24) C dX7_isPart_17 (by decide) (fun h2 => ?_) (fun h2 => ?_)
    · rw [if_pos (Or.inr h2)] at Q
      refine V_iconst (v := 0) C dX7_isPart_24 rfl ?_
      exact V_ireturn C Q dX7_isPart_25 rfl (Nat.le_of_ble_eq_true rfl) (Nat.le_of_ble_eq_true rfl) ⟨rfl, rfl, rfl⟩
    · rw [if_neg (fun h => h.elim h1 h2)] at Q
      refine V_iconst (v := 1) C dX7_isPart_20 rfl ?_
      refine V_goto (tgt := 25) C dX7_isPart_21 (by decide) ?_
      exact V_ireturn C Q dX7_isPart_25 rfl (Nat.le_of_ble_eq_true rfl) (Nat.le_of_ble_eq_true rfl) ⟨rfl, rfl, rfl⟩
set_option maxHeartbeats 400000 in
set_option maxRecDepth 100000 in
/-- signs -/
theorem m_signs {l : Launch} {D : Dx} {b0 : Nat} {ad : Nat → Nat} {F : Fn} (u : St) (th : Int32) (a : Int32) (hM0 : MRep D ad F u th) (hl4 : (zTxt u).length ≤ 400) : Ct l D b0 yX7_signs (wsA yX7_signs cX7_signs 2 (some .int)) (rK 5) [.ref (ad 300), .int a] ad F (PoM D ad F (spSigns u a)) noX := by
  refine Ct.of (by decide +kernel) (by simp [Value.category]) (Nat.le_of_ble_eq_true rfl) (fun X eD eb el C Q => ?_)
  subst eD; subst eb; subst el
  have hO := hM0.1
  have hM := hO
  unfold mObj at hM
  refine V_aload_n C dX7_signs_0 rfl ?_
  refine V_aload_n C dX7_signs_1 rfl ?_
  refine V_iload_n C dX7_signs_2 rfl ?_
  refine V_invV C dX7_signs_3 hM rfl (m_isPart u th a hM0 hl4) mv_7_111 rfl (Nat.le_of_ble_eq_true rfl) ⟨Nat.le_of_ble_eq_true rfl, Nat.le_of_ble_eq_true rfl⟩ ⟨Nat.le_of_ble_eq_true rfl, Nat.le_of_ble_eq_true rfl⟩ (fun _ _ _ h => VT_no h) (fun v ad1 F1 hp => ?_)
  obtain ⟨rfl, rfl, rfl⟩ := hp
  refine V_ifeq (tgt := 13) C dX7_signs_6 (by decide) (fun h1 => ?_) (fun h1 => ?_)
  · have hb : a < 0 ∨ nI (npL (zTxt u)) ≤ a := by
      by_cases hb : a < 0 ∨ nI (npL (zTxt u)) ≤ a
      · exact hb
      · rw [if_neg hb] at h1; exact absurd h1 (by decide)
    rw [show spSigns u a = (1, 0, u) from if_pos hb] at Q
    refine V_iconst (v := 1) C dX7_signs_13 rfl ?_
    refine V_invV C dX7_signs_14 hM rfl (m_fails _ _ _ _ _ _ hO) mv_7_101 rfl (Nat.le_of_ble_eq_true rfl) ⟨Nat.le_of_ble_eq_true rfl, Nat.le_of_ble_eq_true rfl⟩ ⟨Nat.le_of_ble_eq_true rfl, Nat.le_of_ble_eq_true rfl⟩ (fun _ _ _ h => VT_no h) (fun v ad1 F1 hp => ?_)
    obtain ⟨rfl, rfl, hO1, hfr⟩ := hp
    refine V_ifeq_f (tgt := 24) C dX7_signs_17 (by decide) (by decide) ?_
    refine V_iconst (v := 0) C dX7_signs_20 rfl ?_
    refine V_goto (tgt := 37) C dX7_signs_21 (by decide) ?_
    exact V_ireturn C Q dX7_signs_37 rfl (Nat.le_of_ble_eq_true rfl) (Nat.le_of_ble_eq_true rfl) ⟨rfl, rfl, hM0.th hO1 hfr, fun c hc => ⟨rfl, hfr c (by omega)⟩⟩
  · have hb : ¬ (a < 0 ∨ nI (npL (zTxt u)) ≤ a) := fun hb => h1 (if_pos hb)
    have h6 := (npL_spec hl4).1
    obtain ⟨k, hk, rfl⟩ := badI_not (a := a) (n := npL (zTxt u)) (by omega) hb
    have ek : (nI k).toNatClampNeg = k := nI_clamp (by omega)
    have hpe := posL_le (zTxt u) (k + 1)
    have hpm := posL_mono (zTxt u) (show k ≤ k + 1 by omega)
    rw [show spSigns u (nI k) = (0, nI (posL (zTxt u) (k + 1) - posL (zTxt u) k), u) by unfold spSigns; rw [if_neg hb, ek]] at Q
    refine V_iconst (v := 0) C dX7_signs_9 rfl ?_
    refine V_goto (tgt := 14) C dX7_signs_10 (by decide) ?_
    refine V_invV C dX7_signs_14 hM rfl (m_fails _ _ _ _ _ _ hO) mv_7_101 rfl (Nat.le_of_ble_eq_true rfl) ⟨Nat.le_of_ble_eq_true rfl, Nat.le_of_ble_eq_true rfl⟩ ⟨Nat.le_of_ble_eq_true rfl, Nat.le_of_ble_eq_true rfl⟩ (fun _ _ _ h => VT_no h) (fun v ad1 F1 hp => ?_)
    obtain ⟨rfl, rfl, hO1, hfr⟩ := hp
    have hA : MRep (xD X) ad F1 u 0 := hM0.th hO1 hfr
    have hfrA := hfr
    have hM := hO1
    unfold mObj at hM
    refine V_ifeq_t (tgt := 24) C dX7_signs_17 (by decide) (by decide) ?_
    refine V_aload_n C dX7_signs_24 rfl ?_
    refine V_get C dX7_signs_25 fr_7_7 hM rfl ?_
    refine V_iconst (v := 0) C dX7_signs_28 rfl ?_
    refine V_nm (show (0 : Int32) = nI 0 from rfl) ?_
    refine V_aload_n C dX7_signs_29 rfl ?_
    refine V_get C dX7_signs_30 fr_7_98 hM rfl ?_
    refine V_iload_n C dX7_signs_33 rfl ?_
    refine V_invS C dX7_signs_34 (m_signsOf 302 400 0 k (zTxt u) hA.2.1 hl4 (by omega)) ms_7_90 rfl (Nat.le_of_ble_eq_true rfl) ⟨Nat.le_of_ble_eq_true rfl, Nat.le_of_ble_eq_true rfl⟩ ⟨Nat.le_of_ble_eq_true rfl, Nat.le_of_ble_eq_true rfl⟩ (fun _ _ _ h => VT_no h) (fun v ad1 F1 hp => ?_)
    obtain ⟨rfl, rfl, rfl⟩ := hp
    exact V_ireturn C Q dX7_signs_37 rfl (Nat.le_of_ble_eq_true rfl) (Nat.le_of_ble_eq_true rfl) ⟨rfl, rfl, hA, fun c hc => ⟨rfl, hfrA c (by omega)⟩⟩
/-- a part of a row stands behind its beginning -/
theorem RwA.sub {D : Dx} {F : Fn} {c N fr : Nat} {L : List Nat} (h : RwA D F c N fr L) (a n : Nat) (hn : a + n ≤ L.length) : RwA D F c N (fr + a) ((L.drop a).take n) := by
  have hl : ((L.drop a).take n).length = n := by rw [List.length_take, List.length_drop]; omega
  refine ⟨h.1, by rw [hl]; have := h.2.1; omega, fun x hx => h.2.2.1 x (List.mem_of_mem_drop (List.mem_of_mem_take hx)), h.2.2.2.imp fun f hf => ⟨hf.1, fun j hj => ?_⟩⟩
  rw [hl] at hj
  rw [show fr + a + j = fr + (a + j) by omega, hf.2 (a + j) (by omega), List.getD_eq_getElem?_getD, List.getD_eq_getElem?_getD, List.getElem?_take, if_pos hj, List.getElem?_drop]
theorem ptL_len {L : List Nat} (k : Nat) : (ptL L k).length = posL L (k + 1) - posL L k := by
  have h1 := posL_le L (k + 1)
  have h2 := posL_mono L (show k ≤ k + 1 by omega)
  unfold ptL
  rw [List.length_take, List.length_drop]
  omega
set_option maxHeartbeats 400000 in
set_option maxRecDepth 100000 in
/-- octetsOf -/
theorem m_octetsOf {l : Launch} {D : Dx} {b0 : Nat} {ad : Nat → Nat} {F : Fn} (u : St) (th : Int32) (k : Nat) (hM0 : MRep D ad F u th) (hl4 : (zTxt u).length ≤ 400) (hk : k < npL (zTxt u)) : Ct l D b0 yX7_octetsOf (wsA yX7_octetsOf cX7_octetsOf 4 (some .int)) (rK 4) [.ref (ad 300), .int (nI k)] ad F (pRd (some (.int (nI (octN (zTxt u) k)))) ad F) noX := by
  refine Ct.of (by decide +kernel) (by simp [Value.category]) (Nat.le_of_ble_eq_true rfl) (fun X eD eb el C Q => ?_)
  subst eD; subst eb; subst el
  have hO := hM0.1
  have hM := hO
  unfold mObj at hM
  have h6 := (npL_spec hl4).1
  have hpe := posL_le (zTxt u) (k + 1)
  have hpm := posL_mono (zTxt u) (show k ≤ k + 1 by omega)
  have hsl := septL_le (L := ptL (zTxt u) k)
  have hpl := ptL_len (L := zTxt u) k
  have hS := hM0.2.1.sub (posL (zTxt u) k) (posL (zTxt u) (k + 1) - posL (zTxt u) k) (by omega)
  rw [Nat.zero_add] at hS
  have hw8 : octN (zTxt u) k = if wideL (zTxt u) then 2 * (posL (zTxt u) (k + 1) - posL (zTxt u) k) else (7 * septL (ptL (zTxt u) k) + 7) / 8 := rfl
  refine V_aload_n C dX7_octetsOf_0 rfl ?_
  refine V_get C dX7_octetsOf_1 fr_7_7 hM rfl ?_
  refine V_iconst (v := 0) C dX7_octetsOf_4 rfl ?_
  refine V_nm (show (0 : Int32) = nI 0 from rfl) ?_
  refine V_aload_n C dX7_octetsOf_5 rfl ?_
  refine V_get C dX7_octetsOf_6 fr_7_98 hM rfl ?_
  refine V_iload_n C dX7_octetsOf_9 rfl ?_
  refine V_invS C dX7_octetsOf_10 (m_signsOf 302 400 0 k (zTxt u) hM0.2.1 hl4 (by omega)) ms_7_90 rfl (Nat.le_of_ble_eq_true rfl) ⟨Nat.le_of_ble_eq_true rfl, Nat.le_of_ble_eq_true rfl⟩ ⟨Nat.le_of_ble_eq_true rfl, Nat.le_of_ble_eq_true rfl⟩ (fun _ _ _ h => VT_no h) (fun v ad1 F1 hp => ?_)
  obtain ⟨rfl, rfl, rfl⟩ := hp
  refine V_istore_n C dX7_octetsOf_13 (by decide) ?_
  refine V_aload_n C dX7_octetsOf_14 rfl ?_
  refine V_get C dX7_octetsOf_15 fr_7_7 hM rfl ?_
  refine V_iconst (v := 0) C dX7_octetsOf_18 rfl ?_
  refine V_nm (show (0 : Int32) = nI 0 from rfl) ?_
  refine V_aload_n C dX7_octetsOf_19 rfl ?_
  refine V_get C dX7_octetsOf_20 fr_7_98 hM rfl ?_
  refine V_iload_n C dX7_octetsOf_23 rfl ?_
  refine V_invS C dX7_octetsOf_24 (m_begins 302 400 0 k (zTxt u) hM0.2.1 hl4 (by omega)) ms_7_114 rfl (Nat.le_of_ble_eq_true rfl) ⟨Nat.le_of_ble_eq_true rfl, Nat.le_of_ble_eq_true rfl⟩ ⟨Nat.le_of_ble_eq_true rfl, Nat.le_of_ble_eq_true rfl⟩ (fun _ _ _ h => VT_no h) (fun v ad1 F1 hp => ?_)
  obtain ⟨rfl, rfl, rfl⟩ := hp
  refine V_istore_n C dX7_octetsOf_27 (by decide) ?_
  refine V_aload_n C dX7_octetsOf_28 rfl ?_
  refine V_get C dX7_octetsOf_29 fr_7_7 hM rfl ?_
  refine V_iconst (v := 0) C dX7_octetsOf_32 rfl ?_
  refine V_nm (show (0 : Int32) = nI 0 from rfl) ?_
  refine V_aload_n C dX7_octetsOf_33 rfl ?_
  refine V_get C dX7_octetsOf_34 fr_7_98 hM rfl ?_
  refine V_invS C dX7_octetsOf_37 (m_hasWide 302 400 0 (zTxt u) hM0.2.1) ms_7_82 rfl (Nat.le_of_ble_eq_true rfl) ⟨Nat.le_of_ble_eq_true rfl, Nat.le_of_ble_eq_true rfl⟩ ⟨Nat.le_of_ble_eq_true rfl, Nat.le_of_ble_eq_true rfl⟩ (fun _ _ _ h => VT_no h) (fun v ad1 F1 hp => ?_)
  obtain ⟨rfl, rfl, rfl⟩ := hp
  refine V_ifeq (tgt := 49) C dX7_octetsOf_40 (by decide) (fun h1 => ?_) (fun h1 => ?_)
  · rw [hw8, if_neg (wide_fa h1)] at Q
    refine V_bipush (v := 7) C dX7_octetsOf_49 (by decide) ?_
    refine V_aload_n C dX7_octetsOf_51 rfl ?_
    refine V_get C dX7_octetsOf_52 fr_7_7 hM rfl ?_
    refine V_iload_n C dX7_octetsOf_55 rfl ?_
    refine V_iload_n C dX7_octetsOf_56 rfl ?_
    rw [show posL (zTxt u) (k + 1) - posL (zTxt u) k = (ptL (zTxt u) k).length from hpl.symm]
    refine V_invS C dX7_octetsOf_57 (m_septetsIn 302 400 (posL (zTxt u) k) (ptL (zTxt u) k) hS) ms_7_86 rfl (Nat.le_of_ble_eq_true rfl) ⟨Nat.le_of_ble_eq_true rfl, Nat.le_of_ble_eq_true rfl⟩ ⟨Nat.le_of_ble_eq_true rfl, Nat.le_of_ble_eq_true rfl⟩ (fun _ _ _ h => VT_no h) (fun v ad1 F1 hp => ?_)
    obtain ⟨rfl, rfl, rfl⟩ := hp
    refine V_imul C dX7_octetsOf_60 ?_
    refine V_nm (pk_mul 7 _) ?_
    refine V_bipush (v := 7) C dX7_octetsOf_61 (by decide) ?_
    refine V_iadd C dX7_octetsOf_63 ?_
    refine V_nm (nI_add _ 7) ?_
    refine V_bipush (v := 8) C dX7_octetsOf_64 (by decide) ?_
    refine V_idiv C dX7_octetsOf_66 (by decide) ?_
    refine V_nm (pk_div (a := 7 * septL (ptL (zTxt u) k) + 7) (d := 8) (by omega) (by decide) (by decide)) ?_
    exact V_ireturn C Q dX7_octetsOf_67 rfl (Nat.le_of_ble_eq_true rfl) (Nat.le_of_ble_eq_true rfl) ⟨rfl, rfl, rfl⟩
  · rw [hw8, if_pos (wide_tr h1)] at Q
    refine V_iconst (v := 2) C dX7_octetsOf_43 rfl ?_
    refine V_iload_n C dX7_octetsOf_44 rfl ?_
    refine V_imul C dX7_octetsOf_45 ?_
    refine V_nm (pk_mul 2 _) ?_
    refine V_goto (tgt := 67) C dX7_octetsOf_46 (by decide) ?_
    exact V_ireturn C Q dX7_octetsOf_67 rfl (Nat.le_of_ble_eq_true rfl) (Nat.le_of_ble_eq_true rfl) ⟨rfl, rfl, rfl⟩
set_option maxHeartbeats 400000 in
set_option maxRecDepth 100000 in
/-- octets -/
theorem m_octets {l : Launch} {D : Dx} {b0 : Nat} {ad : Nat → Nat} {F : Fn} (u : St) (th : Int32) (a : Int32) (hM0 : MRep D ad F u th) (hl4 : (zTxt u).length ≤ 400) : Ct l D b0 yX7_octets (wsA yX7_octets cX7_octets 2 (some .int)) (rK 5) [.ref (ad 300), .int a] ad F (PoM D ad F (spOcts u a)) noX := by
  refine Ct.of (by decide +kernel) (by simp [Value.category]) (Nat.le_of_ble_eq_true rfl) (fun X eD eb el C Q => ?_)
  subst eD; subst eb; subst el
  have hO := hM0.1
  have hM := hO
  unfold mObj at hM
  refine V_aload_n C dX7_octets_0 rfl ?_
  refine V_aload_n C dX7_octets_1 rfl ?_
  refine V_iload_n C dX7_octets_2 rfl ?_
  refine V_invV C dX7_octets_3 hM rfl (m_isPart u th a hM0 hl4) mv_7_111 rfl (Nat.le_of_ble_eq_true rfl) ⟨Nat.le_of_ble_eq_true rfl, Nat.le_of_ble_eq_true rfl⟩ ⟨Nat.le_of_ble_eq_true rfl, Nat.le_of_ble_eq_true rfl⟩ (fun _ _ _ h => VT_no h) (fun v ad1 F1 hp => ?_)
  obtain ⟨rfl, rfl, rfl⟩ := hp
  refine V_ifeq (tgt := 13) C dX7_octets_6 (by decide) (fun h1 => ?_) (fun h1 => ?_)
  · have hb : a < 0 ∨ nI (npL (zTxt u)) ≤ a := by
      by_cases hb : a < 0 ∨ nI (npL (zTxt u)) ≤ a
      · exact hb
      · rw [if_neg hb] at h1; exact absurd h1 (by decide)
    rw [show spOcts u a = (1, 0, u) from if_pos hb] at Q
    refine V_iconst (v := 1) C dX7_octets_13 rfl ?_
    refine V_invV C dX7_octets_14 hM rfl (m_fails _ _ _ _ _ _ hO) mv_7_101 rfl (Nat.le_of_ble_eq_true rfl) ⟨Nat.le_of_ble_eq_true rfl, Nat.le_of_ble_eq_true rfl⟩ ⟨Nat.le_of_ble_eq_true rfl, Nat.le_of_ble_eq_true rfl⟩ (fun _ _ _ h => VT_no h) (fun v ad1 F1 hp => ?_)
    obtain ⟨rfl, rfl, hO1, hfr⟩ := hp
    refine V_ifeq_f (tgt := 24) C dX7_octets_17 (by decide) (by decide) ?_
    refine V_iconst (v := 0) C dX7_octets_20 rfl ?_
    refine V_goto (tgt := 29) C dX7_octets_21 (by decide) ?_
    exact V_ireturn C Q dX7_octets_29 rfl (Nat.le_of_ble_eq_true rfl) (Nat.le_of_ble_eq_true rfl) ⟨rfl, rfl, hM0.th hO1 hfr, fun c hc => ⟨rfl, hfr c (by omega)⟩⟩
  · have hb : ¬ (a < 0 ∨ nI (npL (zTxt u)) ≤ a) := fun hb => h1 (if_pos hb)
    have h6 := (npL_spec hl4).1
    obtain ⟨k, hk, rfl⟩ := badI_not (a := a) (n := npL (zTxt u)) (by omega) hb
    have ek : (nI k).toNatClampNeg = k := nI_clamp (by omega)
    have hpe := posL_le (zTxt u) (k + 1)
    have hpm := posL_mono (zTxt u) (show k ≤ k + 1 by omega)
    rw [show spOcts u (nI k) = (0, nI (octN (zTxt u) k), u) by unfold spOcts; rw [if_neg hb, ek]] at Q
    refine V_iconst (v := 0) C dX7_octets_9 rfl ?_
    refine V_goto (tgt := 14) C dX7_octets_10 (by decide) ?_
    refine V_invV C dX7_octets_14 hM rfl (m_fails _ _ _ _ _ _ hO) mv_7_101 rfl (Nat.le_of_ble_eq_true rfl) ⟨Nat.le_of_ble_eq_true rfl, Nat.le_of_ble_eq_true rfl⟩ ⟨Nat.le_of_ble_eq_true rfl, Nat.le_of_ble_eq_true rfl⟩ (fun _ _ _ h => VT_no h) (fun v ad1 F1 hp => ?_)
    obtain ⟨rfl, rfl, hO1, hfr⟩ := hp
    have hA : MRep (xD X) ad F1 u 0 := hM0.th hO1 hfr
    have hfrA := hfr
    have hM := hO1
    unfold mObj at hM
    refine V_ifeq_t (tgt := 24) C dX7_octets_17 (by decide) (by decide) ?_
    refine V_aload_n C dX7_octets_24 rfl ?_
    refine V_iload_n C dX7_octets_25 rfl ?_
    refine V_invV C dX7_octets_26 hM rfl (m_octetsOf u 0 k hA hl4 hk) mv_7_117 rfl (Nat.le_of_ble_eq_true rfl) ⟨Nat.le_of_ble_eq_true rfl, Nat.le_of_ble_eq_true rfl⟩ ⟨Nat.le_of_ble_eq_true rfl, Nat.le_of_ble_eq_true rfl⟩ (fun _ _ _ h => VT_no h) (fun v ad1 F1 hp => ?_)
    obtain ⟨rfl, rfl, rfl⟩ := hp
    exact V_ireturn C Q dX7_octets_29 rfl (Nat.le_of_ble_eq_true rfl) (Nat.le_of_ble_eq_true rfl) ⟨rfl, rfl, hA, fun c hc => ⟨rfl, hfrA c (by omega)⟩⟩
