/-! ===== constructors ===== -/
theorem RowAt.nil {D : Dx} {ad ad' : Nat → Nat} {F : Fn} {o a : Nat} (h : RowAt D ad F o a []) (e : ad' a = ad a) : RowAt D ad' F o a [] := by
  obtain ⟨h1, h2, f, h3, h4⟩ := h
  exact ⟨by rw [e]; exact h1, h2, f, h3, fun j hj => absurd hj (Nat.not_lt_zero j)⟩
set_option maxHeartbeats 400000 in
set_option maxRecDepth 100000 in
/-- Link() -/
theorem c_Link_init {l : Launch} {D : Dx} {b0 : Nat} {ad : Nat → Nat} {F : Fn} (o r1 a1 r2 a2 : Nat) (ho : F o = some (oB 0 [.null, .null, .int 0, .int 0, .int 0])) (h1 : F r1 = none) (h2 : F a1 = none) (h3 : F r2 = none) (h4 : F a2 = none) (d1 : r1 ≠ a1) (d2 : r1 ≠ r2) (d3 : r1 ≠ a2) (d4 : a1 ≠ r2) (d5 : a1 ≠ a2) (d6 : r2 ≠ a2) : Ct l D b0 yX0_init (wsA yX0_init cX0_init 1 none) (rC 2 4 250) [.ref (ad o)] ad F (fun v ad1 F1 => v = none ∧ (∀ x, x ∉ [r1, a1, r2, a2] → ad1 x = ad x) ∧ LinkAt ad1 F1 o r1 r2 (nI 1) (nI 2) (nI 5) ∧ RowAt D ad1 F1 r1 a1 [] ∧ RowAt D ad1 F1 r2 a2 [] ∧ ∀ x, x ∉ [o, r1, a1, r2, a2] → F1 x = F x) noX := by
  refine Ct.of (by decide +kernel) (by simp [Value.category]) (Nat.le_of_ble_eq_true rfl) (fun X eD eb el C Q => ?_)
  subst eD; subst eb; subst el
  have n1 : o ≠ r1 := fun e => by rw [e, h1] at ho; cases ho
  have n2 : o ≠ a1 := fun e => by rw [e, h2] at ho; cases ho
  have n3 : o ≠ r2 := fun e => by rw [e, h3] at ho; cases ho
  have n4 : o ≠ a2 := fun e => by rw [e, h4] at ho; cases ho
  refine V_aload_n C dX0_init_0 rfl ?_
  refine V_objInit C dX0_init_1 mo_0_3 mo_i mo_c (Nat.le_of_ble_eq_true rfl) (Nat.le_of_ble_eq_true rfl) rfl ?_
  refine V_aload_n C dX0_init_4 rfl ?_
  refine G_new r1 C dX0_init_5 nw_0_9 h1 (Nat.le_of_ble_eq_true rfl) (Nat.le_of_ble_eq_true rfl) (fun ad1 F1 hadF1 hr hfrF1 => ?_)
  rw [show ad o = ad1 o from (hadF1 o n1).symm]
  have ho := (hfrF1 o n1).trans ho
  refine V_dup C dX0_init_8 rfl ?_
  refine V_invI C dX0_init_9 (c_Row_init r1 a1 hr ((hfrF1 a1 d1.symm).trans h2)) mi_0_11 rfl (Nat.le_of_ble_eq_true rfl) ⟨Nat.le_of_ble_eq_true rfl, Nat.le_of_ble_eq_true rfl⟩ ⟨Nat.le_of_ble_eq_true rfl, Nat.le_of_ble_eq_true rfl⟩ (fun _ _ _ h => VT_no h) (fun v ad2 F2 hp => ?_)
  obtain ⟨rfl, had2, hR1, hf2⟩ := hp
  rw [show ad1 o = ad2 o from (had2 o n2).symm, show ad1 r1 = ad2 r1 from (had2 r1 d1).symm]
  have ho := (hf2 o (by simp [n1, n2])).trans ho
  refine G_putF C rfl dX0_init_12 fp_0_12 ho rfl rfl (Nat.le_of_ble_eq_true rfl) (fun F3 ho hfrF3 => ?_)
  dsimp only [List.set] at ho
  have hR1 := hR1.kept (hfrF3 r1 n1.symm) (hfrF3 a1 n2.symm)
  refine V_aload_n C dX0_init_15 rfl ?_
  have h3' : F3 r2 = none := (hfrF3 r2 n3.symm).trans ((hf2 r2 (by simp [d2.symm, d4.symm])).trans ((hfrF1 r2 d2.symm).trans h3))
  have h4' : F3 a2 = none := (hfrF3 a2 n4.symm).trans ((hf2 a2 (by simp [d3.symm, d5.symm])).trans ((hfrF1 a2 d3.symm).trans h4))
  refine G_new r2 C dX0_init_16 nw_0_9 h3' (Nat.le_of_ble_eq_true rfl) (Nat.le_of_ble_eq_true rfl) (fun ad3 F4 hadF4 hr hfrF4 => ?_)
  rw [show ad2 o = ad3 o from (hadF4 o n3).symm]
  have ho := (hfrF4 o n3).trans ho
  rw [show ad2 r1 = ad3 r1 from (hadF4 r1 d2).symm] at ho
  have hR1 := (hR1.kept (hfrF4 r1 d2) (hfrF4 a1 d4)).nil (hadF4 a1 d4)
  refine V_dup C dX0_init_19 rfl ?_
  refine V_invI C dX0_init_20 (c_Row_init r2 a2 hr ((hfrF4 a2 d6.symm).trans h4')) mi_0_11 rfl (Nat.le_of_ble_eq_true rfl) ⟨Nat.le_of_ble_eq_true rfl, Nat.le_of_ble_eq_true rfl⟩ ⟨Nat.le_of_ble_eq_true rfl, Nat.le_of_ble_eq_true rfl⟩ (fun _ _ _ h => VT_no h) (fun v ad4 F5 hp => ?_)
  obtain ⟨rfl, had5, hR2, hf5⟩ := hp
  rw [show ad3 o = ad4 o from (had5 o n4).symm, show ad3 r2 = ad4 r2 from (had5 r2 d6).symm]
  have ho := (hf5 o (by simp [n3, n4])).trans ho
  rw [show ad3 r1 = ad4 r1 from (had5 r1 d3).symm] at ho
  have hR1 := (hR1.kept (hf5 r1 (by simp [d2, d3])) (hf5 a1 (by simp [d4, d5]))).nil (had5 a1 d5)
  refine G_putF C rfl dX0_init_23 fp_0_18 ho rfl rfl (Nat.le_of_ble_eq_true rfl) (fun F6 ho hfrF6 => ?_)
  dsimp only [List.set] at ho
  refine V_aload_n C dX0_init_26 rfl ?_
  refine V_iconst (v := 1) C dX0_init_27 rfl ?_
  refine G_put C dX0_init_28 fp_0_21 ho rfl rfl (Nat.le_of_ble_eq_true rfl) (fun F7 ho hfrF7 => ?_)
  dsimp only [List.set] at ho
  refine V_aload_n C dX0_init_31 rfl ?_
  refine V_iconst (v := 2) C dX0_init_32 rfl ?_
  refine G_put C dX0_init_33 fp_0_25 ho rfl rfl (Nat.le_of_ble_eq_true rfl) (fun F8 ho hfrF8 => ?_)
  dsimp only [List.set] at ho
  refine V_aload_n C dX0_init_36 rfl ?_
  refine V_iconst (v := 5) C dX0_init_37 rfl ?_
  refine G_put C dX0_init_38 fp_0_29 ho rfl rfl (Nat.le_of_ble_eq_true rfl) (fun F9 ho hfrF9 => ?_)
  dsimp only [List.set] at ho
  have hl : ∀ x, x ≠ o → F9 x = F5 x := fun x hx => (hfrF9 x hx).trans ((hfrF8 x hx).trans ((hfrF7 x hx).trans (hfrF6 x hx)))
  refine V_return C Q dX0_init_41 (Nat.le_of_ble_eq_true rfl) (Nat.le_of_ble_eq_true rfl) ⟨rfl, fun x hx => ?_, ho, hR1.kept (hl r1 n1.symm) (hl a1 n2.symm), hR2.kept (hl r2 n3.symm) (hl a2 n4.symm), fun x hx => ?_⟩
  · simp only [List.mem_cons, not_or] at hx
    exact (had5 x hx.2.2.2.1).trans ((hadF4 x hx.2.2.1).trans ((had2 x hx.2.1).trans (hadF1 x hx.1)))
  · simp only [List.mem_cons, not_or] at hx
    exact (hl x hx.1).trans ((hf5 x (by simp [hx])).trans ((hfrF4 x hx.2.2.2.1).trans ((hfrF3 x hx.1).trans ((hf2 x (by simp [hx])).trans (hfrF1 x hx.2.1)))))
set_option maxHeartbeats 400000 in
set_option maxRecDepth 100000 in
/-- Text() -/
theorem c_Text_init {l : Launch} {D : Dx} {b0 : Nat} {ad : Nat → Nat} {F : Fn} (o r s : Nat) (ho : F o = some (oB 5 [.null, .int 0, .int 0, .int 0, .null, .int 0])) (h1 : F r = none) (h2 : F s = none) (d1 : r ≠ s) : Ct l D b0 yX5_init (wsA yX5_init cX5_init 1 none) (rC 1 2 410) [.ref (ad o)] ad F (fun v ad1 F1 => v = none ∧ (∀ x, x ∉ [r, s] → ad1 x = ad x) ∧ TextAt D ad1 F1 o r s [] ∧ ∀ x, x ∉ [o, r, s] → F1 x = F x) noX := by
  refine Ct.of (by decide +kernel) (by simp [Value.category]) (Nat.le_of_ble_eq_true rfl) (fun X eD eb el C Q => ?_)
  subst eD; subst eb; subst el
  have n1 : o ≠ r := fun e => by rw [e, h1] at ho; cases ho
  have n2 : o ≠ s := fun e => by rw [e, h2] at ho; cases ho
  refine V_aload_n C dX5_init_0 rfl ?_
  refine V_objInit C dX5_init_1 mo_5_3 mo_i mo_c (Nat.le_of_ble_eq_true rfl) (Nat.le_of_ble_eq_true rfl) rfl ?_
  refine V_aload_n C dX5_init_4 rfl ?_
  refine V_sipush (v := 400) C dX5_init_5 (by decide) ?_
  refine G_newi r C dX5_init_8 ar_int h1 rfl (by decide) (Nat.le_of_ble_eq_true rfl) (Nat.le_of_ble_eq_true rfl) (fun ad1 F1 hadF1 hr hfrF1 => ?_)
  rw [show ad o = ad1 o from (hadF1 o n1).symm]
  have ho := (hfrF1 o n1).trans ho
  refine G_putF C rfl dX5_init_10 fp_5_9 ho rfl rfl (Nat.le_of_ble_eq_true rfl) (fun F2 ho hfrF2 => ?_)
  dsimp only [List.set] at ho
  refine V_aload_n C dX5_init_13 rfl ?_
  refine V_iconst (v := 0) C dX5_init_14 rfl ?_
  refine G_put C dX5_init_15 fp_5_15 ho rfl rfl (Nat.le_of_ble_eq_true rfl) (fun F3 ho hfrF3 => ?_)
  dsimp only [List.set] at ho
  refine V_aload_n C dX5_init_18 rfl ?_
  refine V_iconst (v := 0) C dX5_init_19 rfl ?_
  refine G_put C dX5_init_20 fp_5_19 ho rfl rfl (Nat.le_of_ble_eq_true rfl) (fun F4 ho hfrF4 => ?_)
  dsimp only [List.set] at ho
  refine V_aload_n C dX5_init_23 rfl ?_
  refine V_iconst (v := 0) C dX5_init_24 rfl ?_
  refine G_put C dX5_init_25 fp_5_22 ho rfl rfl (Nat.le_of_ble_eq_true rfl) (fun F5 ho hfrF5 => ?_)
  dsimp only [List.set] at ho
  refine V_aload_n C dX5_init_28 rfl ?_
  refine V_bipush (v := 7) C dX5_init_29 (by decide) ?_
  have hl : ∀ x, x ≠ o → F5 x = F1 x := fun x hx => (hfrF5 x hx).trans ((hfrF4 x hx).trans ((hfrF3 x hx).trans (hfrF2 x hx)))
  have h2' : F5 s = none := (hl s n2.symm).trans ((hfrF1 s d1.symm).trans h2)
  refine G_newi s C dX5_init_31 ar_int h2' rfl (by decide) (Nat.le_of_ble_eq_true rfl) (Nat.le_of_ble_eq_true rfl) (fun ad2 F6 hadF6 hs hfrF6 => ?_)
  rw [show ad1 o = ad2 o from (hadF6 o n2).symm]
  have ho := (hfrF6 o n2).trans ho
  rw [show ad1 r = ad2 r from (hadF6 r d1).symm] at ho
  refine G_putF C rfl dX5_init_33 fp_5_26 ho rfl rfl (Nat.le_of_ble_eq_true rfl) (fun F7 ho hfrF7 => ?_)
  dsimp only [List.set] at ho
  refine V_aload_n C dX5_init_36 rfl ?_
  refine V_iconst (v := 0) C dX5_init_37 rfl ?_
  refine G_put C dX5_init_38 fp_5_29 ho rfl rfl (Nat.le_of_ble_eq_true rfl) (fun F8 ho hfrF8 => ?_)
  dsimp only [List.set] at ho
  have hl2 : ∀ x, x ≠ o → F8 x = F6 x := fun x hx => (hfrF8 x hx).trans (hfrF7 x hx)
  have hr1 := (hl2 r n1.symm).trans ((hfrF6 r d1).trans ((hl r n1.symm).trans hr))
  have hs1 := (hl2 s n2.symm).trans hs
  refine V_return C Q dX5_init_41 (Nat.le_of_ble_eq_true rfl) (Nat.le_of_ble_eq_true rfl) ⟨rfl, fun x hx => ?_, ⟨ho, ⟨by decide, fun x hx => absurd hx (List.not_mem_nil), _, hr1, fun j hj => absurd hj (Nat.not_lt_zero j)⟩, _, hs1, fun h => absurd rfl h⟩, fun x hx => ?_⟩
  · simp only [List.mem_cons, not_or] at hx
    exact (hadF6 x hx.2.1).trans (hadF1 x hx.1)
  · simp only [List.mem_cons, not_or] at hx
    exact (hl2 x hx.1).trans ((hfrF6 x hx.2.2.1).trans ((hl x hx.1).trans (hfrF1 x hx.2.1)))
