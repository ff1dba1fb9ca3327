/-! ===== the model's calls that only tell ===== -/
/-- the class's cells stay -/
def FrM (ad : Nat → Nat) (F : Fn) (ad1 : Nat → Nat) (F1 : Fn) : Prop := ∀ c, c < 300 → ad1 c = ad c ∧ F1 c = F c
/-- an answer of the model: what is thrown stands in it -/
def PoM (D : Dx) (ad : Nat → Nat) (F : Fn) (r : Ans) : Pst := fun v ad1 F1 => v = some (.int r.2.1) ∧ ad = ad1 ∧ MRep D ad1 F1 r.2.2 (nI r.1) ∧ FrM ad F ad1 F1
set_option maxHeartbeats 400000 in
set_option maxRecDepth 100000 in
/-- time -/
theorem m_time {l : Launch} {D : Dx} {b0 : Nat} {ad : Nat → Nat} {F : Fn} (u : St) (th : Int32) (hM0 : MRep D ad F u th) : Ct l D b0 yX7_time (wsA yX7_time cX7_time 1 (some .int)) (rK 1) [.ref (ad 300)] ad F (PoM D ad F (0, nI (zNow u), u)) noX := by
  refine Ct.of (by decide +kernel) (by simp [Value.category]) (Nat.le_of_ble_eq_true rfl) (fun X eD eb el C Q => ?_)
  subst eD; subst eb; subst el
  have hO := hM0.1
  have hM := hO
  unfold mObj at hM
  refine V_aload_n C dX7_time_0 rfl ?_
  refine V_aload_n C dX7_time_1 rfl ?_
  refine V_get C dX7_time_2 fr_7_127 hM rfl ?_
  refine V_invV C dX7_time_5 hM rfl (m_tells _ _ _ _ _ _ hO) mv_7_108 rfl (Nat.le_of_ble_eq_true rfl) ⟨Nat.le_of_ble_eq_true rfl, Nat.le_of_ble_eq_true rfl⟩ ⟨Nat.le_of_ble_eq_true rfl, Nat.le_of_ble_eq_true rfl⟩ (fun _ _ _ h => VT_no h) (fun v ad1 F1 hp => ?_)
  obtain ⟨rfl, rfl, hO1, hfr⟩ := hp
  exact V_ireturn C Q dX7_time_8 rfl (Nat.le_of_ble_eq_true rfl) (Nat.le_of_ble_eq_true rfl) ⟨rfl, rfl, hM0.th hO1 hfr, fun c hc => ⟨rfl, hfr c (by omega)⟩⟩
set_option maxHeartbeats 400000 in
set_option maxRecDepth 100000 in
/-- receipts -/
theorem m_receipts {l : Launch} {D : Dx} {b0 : Nat} {ad : Nat → Nat} {F : Fn} (u : St) (th : Int32) (hM0 : MRep D ad F u th) : Ct l D b0 yX7_receipts (wsA yX7_receipts cX7_receipts 1 (some .int)) (rK 1) [.ref (ad 300)] ad F (PoM D ad F (0, nI (zRcp u).length, u)) noX := by
  refine Ct.of (by decide +kernel) (by simp [Value.category]) (Nat.le_of_ble_eq_true rfl) (fun X eD eb el C Q => ?_)
  subst eD; subst eb; subst el
  have hO := hM0.1
  have hM := hO
  unfold mObj at hM
  refine V_aload_n C dX7_receipts_0 rfl ?_
  refine V_aload_n C dX7_receipts_1 rfl ?_
  refine V_get C dX7_receipts_2 fr_7_143 hM rfl ?_
  refine V_invV C dX7_receipts_5 hM rfl (m_tells _ _ _ _ _ _ hO) mv_7_108 rfl (Nat.le_of_ble_eq_true rfl) ⟨Nat.le_of_ble_eq_true rfl, Nat.le_of_ble_eq_true rfl⟩ ⟨Nat.le_of_ble_eq_true rfl, Nat.le_of_ble_eq_true rfl⟩ (fun _ _ _ h => VT_no h) (fun v ad1 F1 hp => ?_)
  obtain ⟨rfl, rfl, hO1, hfr⟩ := hp
  exact V_ireturn C Q dX7_receipts_8 rfl (Nat.le_of_ble_eq_true rfl) (Nat.le_of_ble_eq_true rfl) ⟨rfl, rfl, hM0.th hO1 hfr, fun c hc => ⟨rfl, hfr c (by omega)⟩⟩
set_option maxHeartbeats 400000 in
set_option maxRecDepth 100000 in
/-- parts -/
theorem m_parts {l : Launch} {D : Dx} {b0 : Nat} {ad : Nat → Nat} {F : Fn} (u : St) (th : Int32) (hM0 : MRep D ad F u th) (hl4 : (zTxt u).length ≤ 400) : Ct l D b0 yX7_parts (wsA yX7_parts cX7_parts 1 (some .int)) (rK 4) [.ref (ad 300)] ad F (PoM D ad F (0, nI (npL (zTxt u)), u)) noX := by
  refine Ct.of (by decide +kernel) (by simp [Value.category]) (Nat.le_of_ble_eq_true rfl) (fun X eD eb el C Q => ?_)
  subst eD; subst eb; subst el
  have hO := hM0.1
  have hM := hO
  unfold mObj at hM
  refine V_aload_n C dX7_parts_0 rfl ?_
  refine V_aload_n C dX7_parts_1 rfl ?_
  refine V_get C dX7_parts_2 fr_7_7 hM rfl ?_
  refine V_iconst (v := 0) C dX7_parts_5 rfl ?_
  refine V_nm (show (0 : Int32) = nI 0 from rfl) ?_
  refine V_aload_n C dX7_parts_6 rfl ?_
  refine V_get C dX7_parts_7 fr_7_98 hM rfl ?_
  refine V_invS C dX7_parts_10 (m_partsOf 302 400 0 (zTxt u) hM0.2.1 hl4) ms_7_105 rfl (Nat.le_of_ble_eq_true rfl) ⟨Nat.le_of_ble_eq_true rfl, Nat.le_of_ble_eq_true rfl⟩ ⟨Nat.le_of_ble_eq_true rfl, Nat.le_of_ble_eq_true rfl⟩ (fun _ _ _ h => VT_no h) (fun v ad1 F1 hp => ?_)
  obtain ⟨rfl, rfl, rfl⟩ := hp
  refine V_invV C dX7_parts_13 hM rfl (m_tells _ _ _ _ _ _ hO) mv_7_108 rfl (Nat.le_of_ble_eq_true rfl) ⟨Nat.le_of_ble_eq_true rfl, Nat.le_of_ble_eq_true rfl⟩ ⟨Nat.le_of_ble_eq_true rfl, Nat.le_of_ble_eq_true rfl⟩ (fun _ _ _ h => VT_no h) (fun v ad1 F1 hp => ?_)
  obtain ⟨rfl, rfl, hO1, hfr⟩ := hp
  exact V_ireturn C Q dX7_parts_16 rfl (Nat.le_of_ble_eq_true rfl) (Nat.le_of_ble_eq_true rfl) ⟨rfl, rfl, hM0.th hO1 hfr, fun c hc => ⟨rfl, hfr c (by omega)⟩⟩
set_option maxHeartbeats 400000 in
set_option maxRecDepth 100000 in
/-- isWide -/
theorem m_isWide {l : Launch} {D : Dx} {b0 : Nat} {ad : Nat → Nat} {F : Fn} (u : St) (th : Int32) (hM0 : MRep D ad F u th) : Ct l D b0 yX7_isWide (wsA yX7_isWide cX7_isWide 1 (some .boolean)) (rK 1) [.ref (ad 300)] ad F (PoM D ad F (0, b2i (wideL (zTxt u)), u)) noX := by
  refine Ct.of (by decide +kernel) (by simp [Value.category]) (Nat.le_of_ble_eq_true rfl) (fun X eD eb el C Q => ?_)
  subst eD; subst eb; subst el
  have hO := hM0.1
  have hM := hO
  unfold mObj at hM
  refine V_aload_n C dX7_isWide_0 rfl ?_
  refine V_iconst (v := 0) C dX7_isWide_1 rfl ?_
  refine G_put C dX7_isWide_2 fp_7_74 hM rfl rfl (Nat.le_of_ble_eq_true rfl) (fun F1 hM hfr => ?_)
  dsimp only [List.set] at hM
  have hO1 : mObj ad F1 (zNow u) (zTxt u).length (zMc u) (zRcp u).length (nI 0) := hM
  have h1 := hM0.th hO1 hfr
  refine V_aload_n C dX7_isWide_5 rfl ?_
  refine V_get C dX7_isWide_6 fr_7_7 hM rfl ?_
  refine V_iconst (v := 0) C dX7_isWide_9 rfl ?_
  refine V_nm (show (0 : Int32) = nI 0 from rfl) ?_
  refine V_aload_n C dX7_isWide_10 rfl ?_
  refine V_get C dX7_isWide_11 fr_7_98 hM rfl ?_
  refine V_invS C dX7_isWide_14 (m_hasWide 302 400 0 (zTxt u) h1.2.1) ms_7_82 rfl (Nat.le_of_ble_eq_true rfl) ⟨Nat.le_of_ble_eq_true rfl, Nat.le_of_ble_eq_true rfl⟩ ⟨Nat.le_of_ble_eq_true rfl, Nat.le_of_ble_eq_true rfl⟩ (fun _ _ _ h => VT_no h) (fun v ad1 F1 hp => ?_)
  obtain ⟨rfl, rfl, rfl⟩ := hp
  exact V_ireturn C Q dX7_isWide_17 (b2i_nar _) (Nat.le_of_ble_eq_true rfl) (Nat.le_of_ble_eq_true rfl) ⟨rfl, rfl, h1, fun c hc => ⟨rfl, hfr c (by omega)⟩⟩
theorem MRep.sg {D : Dx} {ad : Nat → Nat} {F G : Fn} {u : St} {th a : Int32} (h : MRep D ad F u th) (g : mObj ad G (zNow u) 0 (zMc u) (zRcp u).length a) (hK : ∀ x, x ≠ 300 → G x = F x) : MRep D ad G (sTxt u []) a := by
  obtain ⟨-, h1, h2, h3, h4, h5, h6, h7, h8, h9, h10, h11, h12, h13, h14, h15, h16, h17, h18, h19, h20, h21, h22⟩ := h
  exact ⟨g, ⟨h1.1, (show 0 + 0 ≤ 400 by decide), fun x hx => absurd hx List.not_mem_nil, h1.2.2.2.imp fun f hf => ⟨(hK _ (by decide)).trans hf.1, fun j hj => absurd hj (Nat.not_lt_zero j)⟩⟩, fun m hm => (h2 m hm).kept (hK _ (by decide)), h3.imp fun f hf => (hK _ (by decide)).trans hf, h4.kept (hK _ (by decide)), h5.kept (hK _ (by decide)), h6.kept (hK _ (by decide)), h7.kept (hK _ (by decide)), h8.kept (hK _ (by decide)), h9.kept (hK _ (by decide)), h10.kept (hK _ (by decide)), h11.kept (hK _ (by decide)), h12.kept (hK _ (by decide)), h13.kept (hK _ (by decide)), h14.kept (hK _ (by decide)), h15.kept (hK _ (by decide)), h16.kept (hK _ (by decide)), h17.kept (hK _ (by decide)), h18.kept (hK _ (by decide)), h19.kept (hK _ (by decide)), h20.kept (hK _ (by decide)), h21.kept (hK _ (by decide)), h22.kept (hK _ (by decide))⟩
set_option maxHeartbeats 400000 in
set_option maxRecDepth 100000 in
/-- erase -/
theorem m_erase {l : Launch} {D : Dx} {b0 : Nat} {ad : Nat → Nat} {F : Fn} (u : St) (th : Int32) (hM0 : MRep D ad F u th) : Ct l D b0 yX7_erase (wsA yX7_erase cX7_erase 2 (some .int)) r0 [.ref (ad 300)] ad F (PoM D ad F (spErase u)) noX := by
  refine Ct.of (by decide +kernel) (by simp [Value.category]) (Nat.le_of_ble_eq_true rfl) (fun X eD eb el C Q => ?_)
  subst eD; subst eb; subst el
  have hO := hM0.1
  have hM := hO
  unfold mObj at hM
  refine V_aload_n C dX7_erase_0 rfl ?_
  refine V_iconst (v := 0) C dX7_erase_1 rfl ?_
  refine G_put C dX7_erase_2 fp_7_74 hM rfl rfl (Nat.le_of_ble_eq_true rfl) (fun F1 hM hfr => ?_)
  dsimp only [List.set] at hM
  have hfr1 := hfr
  refine V_aload_n C dX7_erase_5 rfl ?_
  refine V_get C dX7_erase_6 fr_7_98 hM rfl ?_
  refine V_istore_n C dX7_erase_9 (by decide) ?_
  refine V_aload_n C dX7_erase_10 rfl ?_
  refine V_iconst (v := 0) C dX7_erase_11 rfl ?_
  refine G_put C dX7_erase_12 fp_7_98 hM rfl rfl (Nat.le_of_ble_eq_true rfl) (fun F2 hM hfr => ?_)
  dsimp only [List.set] at hM
  have hO1 : mObj ad F2 (zNow u) 0 (zMc u) (zRcp u).length (nI 0) := hM
  have hK : ∀ x, x ≠ 300 → F2 x = F x := fun x hx => (hfr x hx).trans (hfr1 x hx)
  refine V_iload_n C dX7_erase_15 rfl ?_
  exact V_ireturn C Q dX7_erase_16 rfl (Nat.le_of_ble_eq_true rfl) (Nat.le_of_ble_eq_true rfl) ⟨rfl, rfl, hM0.sg hO1 hK, fun c hc => ⟨rfl, hK c (by omega)⟩⟩
