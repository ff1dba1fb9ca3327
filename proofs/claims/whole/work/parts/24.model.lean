/-! ===== the model: its cells hold a state too ===== -/
/-- the model's object: time, signs, messages, receipts, thrown; array of field k stands at code 300 + k -/
def mObj (ad : Nat → Nat) (F : Fn) (now sg mc rc : Nat) (th : Int32) : Prop := F 300 = some (oB 7 [.int (nI now), .int (nI sg), .ref (ad 302), .int (nI mc), .ref (ad 304), .ref (ad 305), .ref (ad 306), .ref (ad 307), .ref (ad 308), .int (nI rc), .ref (ad 310), .ref (ad 311), .ref (ad 312), .ref (ad 313), .ref (ad 314), .ref (ad 315), .ref (ad 316), .ref (ad 317), .ref (ad 318), .ref (ad 319), .ref (ad 320), .ref (ad 321), .ref (ad 322), .ref (ad 323), .ref (ad 324), .int th])
def isB (v a b : Int32) : Int32 := if a ≤ v ∧ v ≤ b then 1 else 0
theorem isB_nar (v a b : Int32) : narrow .boolean (.int (isB v a b)) = .int (isB v a b) := by unfold isB; split <;> rfl
set_option maxHeartbeats 400000 in
set_option maxRecDepth 100000 in
/-- isIn -/
theorem m_isIn {l : Launch} {D : Dx} {b0 : Nat} {ad : Nat → Nat} {F : Fn} (v a b : Int32)  : Ct l D b0 yX7_isIn (wsA yX7_isIn cX7_isIn 3 (some .boolean)) r0 [.int v, .int a, .int b] ad F (pRd (some (.int (isB v a b))) ad F) noX := by
  refine Ct.of (by decide +kernel) (by simp [Value.category]) (Nat.le_of_ble_eq_true rfl) (fun X eD eb el C Q => ?_)
  subst eD; subst eb; subst el
  refine V_iload_n C dX7_isIn_0 rfl ?_
  refine V_iload_n C dX7_isIn_1 rfl ?_
  refine V_icmplt (tgt := 14) C dX7_isIn_2 (by decide) (fun h1 => ?_) (fun h1 => ?_)
  · rw [show isB v a b = 0 from if_neg (fun h => absurd h1 (Int32.not_lt.mpr h.1))] at Q
    refine V_iconst (v := 0) C dX7_isIn_14 rfl ?_
    exact V_ireturn C Q dX7_isIn_15 rfl (Nat.le_of_ble_eq_true rfl) (Nat.le_of_ble_eq_true rfl) ⟨rfl, rfl, rfl⟩
  · refine V_iload_n C dX7_isIn_5 rfl ?_
    refine V_iload_n C dX7_isIn_6 rfl ?_
    refine V_icmpgt (tgt := 14) C dX7_isIn_7 (by decide) (fun h2 => ?_) (fun h2 => ?_)
    · rw [show isB v a b = 0 from if_neg (fun h => absurd h2 (Int32.not_lt.mpr h.2))] at Q
      refine V_iconst (v := 0) C dX7_isIn_14 rfl ?_
      exact V_ireturn C Q dX7_isIn_15 rfl (Nat.le_of_ble_eq_true rfl) (Nat.le_of_ble_eq_true rfl) ⟨rfl, rfl, rfl⟩
    · rw [show isB v a b = 1 from if_pos ⟨Int32.not_lt.mp h1, Int32.not_lt.mp h2⟩] at Q
      refine V_iconst (v := 1) C dX7_isIn_10 rfl ?_
      refine V_goto (tgt := 15) C dX7_isIn_11 (by decide) ?_
      exact V_ireturn C Q dX7_isIn_15 rfl (Nat.le_of_ble_eq_true rfl) (Nat.le_of_ble_eq_true rfl) ⟨rfl, rfl, rfl⟩
set_option maxHeartbeats 400000 in
set_option maxRecDepth 100000 in
/-- isLink -/
theorem m_isLink {l : Launch} {D : Dx} {b0 : Nat} {ad : Nat → Nat} {F : Fn} (v : Int32)  : Ct l D b0 yX7_isLink (wsA yX7_isLink cX7_isLink 1 (some .boolean)) (rK 1) [.int v] ad F (pRd (some (.int (isB v 0 2))) ad F) noX := by
  refine Ct.of (by decide +kernel) (by simp [Value.category]) (Nat.le_of_ble_eq_true rfl) (fun X eD eb el C Q => ?_)
  subst eD; subst eb; subst el
  refine V_iload_n C dX7_isLink_0 rfl ?_
  refine V_iconst (v := 0) C dX7_isLink_1 rfl ?_
  refine V_iconst (v := 2) C dX7_isLink_2 rfl ?_
  refine V_invS C dX7_isLink_3 (m_isIn v 0 2) ms_7_94 rfl (Nat.le_of_ble_eq_true rfl) ⟨Nat.le_of_ble_eq_true rfl, Nat.le_of_ble_eq_true rfl⟩ ⟨Nat.le_of_ble_eq_true rfl, Nat.le_of_ble_eq_true rfl⟩ (fun _ _ _ h => VT_no h) (fun v ad1 F1 hp => ?_)
  obtain ⟨rfl, rfl, rfl⟩ := hp
  exact V_ireturn C Q dX7_isLink_6 (isB_nar _ _ _) (Nat.le_of_ble_eq_true rfl) (Nat.le_of_ble_eq_true rfl) ⟨rfl, rfl, rfl⟩
set_option maxHeartbeats 400000 in
set_option maxRecDepth 100000 in
/-- thrown -/
theorem m_thrown {l : Launch} {D : Dx} {b0 : Nat} {ad : Nat → Nat} {F : Fn} (now sg mc rc : Nat) (th : Int32) (hO : mObj ad F now sg mc rc th) : Ct l D b0 yX7_thrown (wsA yX7_thrown cX7_thrown 1 (some .int)) r0 [.ref (ad 300)] ad F (pRd (some (.int th)) ad F) noX := by
  refine Ct.of (by decide +kernel) (by simp [Value.category]) (Nat.le_of_ble_eq_true rfl) (fun X eD eb el C Q => ?_)
  subst eD; subst eb; subst el
  have hM := hO
  unfold mObj at hM
  refine V_aload_n C dX7_thrown_0 rfl ?_
  refine V_get C dX7_thrown_1 fr_7_74 hM rfl ?_
  exact V_ireturn C Q dX7_thrown_4 rfl (Nat.le_of_ble_eq_true rfl) (Nat.le_of_ble_eq_true rfl) ⟨rfl, rfl, rfl⟩
set_option maxHeartbeats 400000 in
set_option maxRecDepth 100000 in
/-- fails -/
theorem m_fails {l : Launch} {D : Dx} {b0 : Nat} {ad : Nat → Nat} {F : Fn} (now sg mc rc : Nat) (th : Int32) (a : Int32) (hO : mObj ad F now sg mc rc th) : Ct l D b0 yX7_fails (wsA yX7_fails cX7_fails 2 (some .boolean)) r0 [.ref (ad 300), .int a] ad F (fun v ad1 F1 => v = some (.int (if 0 < a then 1 else 0)) ∧ ad = ad1 ∧ mObj ad F1 now sg mc rc a ∧ ∀ x, x ≠ 300 → F1 x = F x) noX := by
  refine Ct.of (by decide +kernel) (by simp [Value.category]) (Nat.le_of_ble_eq_true rfl) (fun X eD eb el C Q => ?_)
  subst eD; subst eb; subst el
  have hM := hO
  unfold mObj at hM
  refine V_aload_n C dX7_fails_0 rfl ?_
  refine V_iload_n C dX7_fails_1 rfl ?_
  refine G_put C dX7_fails_2 fp_7_74 hM rfl rfl (Nat.le_of_ble_eq_true rfl) (fun F1 hM hfr => ?_)
  dsimp only [List.set] at hM
  refine V_iload_n C dX7_fails_5 rfl ?_
  refine V_ifle (tgt := 13) C dX7_fails_6 (by decide) (fun h1 => ?_) (fun h1 => ?_)
  · refine V_iconst (v := 0) C dX7_fails_13 rfl ?_
    exact V_ireturn C Q dX7_fails_14 rfl (Nat.le_of_ble_eq_true rfl) (Nat.le_of_ble_eq_true rfl) ⟨by rw [if_neg (Int32.not_lt.mpr h1)], rfl, hM, hfr⟩
  · refine V_iconst (v := 1) C dX7_fails_9 rfl ?_
    refine V_goto (tgt := 14) C dX7_fails_10 (by decide) ?_
    exact V_ireturn C Q dX7_fails_14 rfl (Nat.le_of_ble_eq_true rfl) (Nat.le_of_ble_eq_true rfl) ⟨by rw [if_pos (Int32.not_le.mp h1)], rfl, hM, hfr⟩
set_option maxHeartbeats 400000 in
set_option maxRecDepth 100000 in
/-- tells -/
theorem m_tells {l : Launch} {D : Dx} {b0 : Nat} {ad : Nat → Nat} {F : Fn} (now sg mc rc : Nat) (th : Int32) (a : Int32) (hO : mObj ad F now sg mc rc th) : Ct l D b0 yX7_tells (wsA yX7_tells cX7_tells 2 (some .int)) r0 [.ref (ad 300), .int a] ad F (fun v ad1 F1 => v = some (.int a) ∧ ad = ad1 ∧ mObj ad F1 now sg mc rc 0 ∧ ∀ x, x ≠ 300 → F1 x = F x) noX := by
  refine Ct.of (by decide +kernel) (by simp [Value.category]) (Nat.le_of_ble_eq_true rfl) (fun X eD eb el C Q => ?_)
  subst eD; subst eb; subst el
  have hM := hO
  unfold mObj at hM
  refine V_aload_n C dX7_tells_0 rfl ?_
  refine V_iconst (v := 0) C dX7_tells_1 rfl ?_
  refine G_put C dX7_tells_2 fp_7_74 hM rfl rfl (Nat.le_of_ble_eq_true rfl) (fun F1 hM hfr => ?_)
  dsimp only [List.set] at hM
  refine V_iload_n C dX7_tells_5 rfl ?_
  exact V_ireturn C Q dX7_tells_6 rfl (Nat.le_of_ble_eq_true rfl) (Nat.le_of_ble_eq_true rfl) ⟨rfl, rfl, hM, hfr⟩
