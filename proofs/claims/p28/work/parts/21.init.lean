/-! ===== constructors ===== -/
theorem RowAt.nil {D : Dx} {ad ad' : Nat → Nat} {F : Fn} {o a : Nat} (h : RowAt D ad F o a []) (e : ad' a = ad a) : RowAt D ad' F o a [] := by
  obtain ⟨h1, h2, f, h3, h4⟩ := h
  exact ⟨by rw [e]; exact h1, h2, f, h3, fun j hj => absurd hj (Nat.not_lt_zero j)⟩
set_option maxHeartbeats 400000 in
set_option maxRecDepth 100000 in
/-- Link() -/
theorem c_Link_init {l : Launch} {D : Dx} {b0 : Nat} {ad : Nat → Nat} {F : Fn} (o r1 a1 r2 a2 : Nat) (ho : F o = some (oB 0 [.null, .null, .int 0, .int 0, .int 0])) (h1 : F r1 = none) (h2 : F a1 = none) (h3 : F r2 = none) (h4 : F a2 = none) (d1 : r1 ≠ a1) (d2 : r1 ≠ r2) (d3 : r1 ≠ a2) (d4 : a1 ≠ r2) (d5 : a1 ≠ a2) (d6 : r2 ≠ a2) : Ct l D b0 yX0_init (wsA yX0_init cX0_init 1 none) (rC 2 4 250) [.ref (ad o)] ad F (fun v ad1 F1 => v = none ∧ (∀ x, x ∉ [r1, a1, r2, a2] → ad1 x = ad x) ∧ LinkAt ad1 F1 o r1 r2 (nI 1) (nI 2) (nI 5) ∧ RowAt D ad1 F1 r1 a1 [] ∧ RowAt D ad1 F1 r2 a2 [] ∧ ∀ x, x ∉ [o, r1, a1, r2, a2] → F1 x = F x) noX := by
  refine Ct.of (by decide +kernel) (by simp [Value.category]) (Nat.le_of_ble_eq_true rfl) (fun X eD eb el C Q => ?_)
  subst eD; subst eb; subst el
  have n1 : o ≠ r1 := fun e => by rw [e, h1] at ho; cases ho
  have n2 : o ≠ a1 := fun e => by rw [e, h2] at ho; cases ho
  have n3 : o ≠ r2 := fun e => by rw [e, h3] at ho; cases ho
  have n4 : o ≠ a2 := fun e => by rw [e, h4] at ho; cases ho
  refine V_aload_n C dX0_init_0 rfl ?_
  refine V_objInit C dX0_init_1 mo_0_3 mo_i mo_c (Nat.le_of_ble_eq_true rfl) (Nat.le_of_ble_eq_true rfl) rfl ?_
  refine V_aload_n C dX0_init_4 rfl ?_
  refine G_new r1 C dX0_init_5 nw_0_9 h1 (Nat.le_of_ble_eq_true rfl) (Nat.le_of_ble_eq_true rfl) (fun ad1 F1 hadF1 hr hfrF1 => ?_)
  rw [show ad o = ad1 o from (hadF1 o n1).symm]
  have ho := (hfrF1 o n1).trans ho
  refine V_dup C dX0_init_8 rfl ?_
  refine V_invI C dX0_init_9 (c_Row_init r1 a1 hr ((hfrF1 a1 d1.symm).trans h2)) mi_0_11 rfl (Nat.le_of_ble_eq_true rfl) ⟨Nat.le_of_ble_eq_true rfl, Nat.le_of_ble_eq_true rfl⟩ ⟨Nat.le_of_ble_eq_true rfl, Nat.le_of_ble_eq_true rfl⟩ (fun _ _ _ h => VT_no h) (fun v ad2 F2 hp => ?_)
  obtain ⟨rfl, had2, hR1, hf2⟩ := hp
  rw [show ad1 o = ad2 o from (had2 o n2).symm, show ad1 r1 = ad2 r1 from (had2 r1 d1).symm]
  have ho := (hf2 o (by simp [n1, n2])).trans ho
  refine G_putF C rfl dX0_init_12 fp_0_12 ho rfl rfl (Nat.le_of_ble_eq_true rfl) (fun F3 ho hfrF3 => ?_)
  dsimp only [List.set] at ho
  have hR1 := hR1.kept (hfrF3 r1 n1.symm) (hfrF3 a1 n2.symm)
  refine V_aload_n C dX0_init_15 rfl ?_
  have h3' : F3 r2 = none := (hfrF3 r2 n3.symm).trans ((hf2 r2 (by simp [d2.symm, d4.symm])).trans ((hfrF1 r2 d2.symm).trans h3))
  have h4' : F3 a2 = none := (hfrF3 a2 n4.symm).trans ((hf2 a2 (by simp [d3.symm, d5.symm])).trans ((hfrF1 a2 d3.symm).trans h4))
  refine G_new r2 C dX0_init_16 nw_0_9 h3' (Nat.le_of_ble_eq_true rfl) (Nat.le_of_ble_eq_true rfl) (fun ad3 F4 hadF4 hr hfrF4 => ?_)
  rw [show ad2 o = ad3 o from (hadF4 o n3).symm]
  have ho := (hfrF4 o n3).trans ho
  rw [show ad2 r1 = ad3 r1 from (hadF4 r1 d2).symm] at ho
  have hR1 := (hR1.kept (hfrF4 r1 d2) (hfrF4 a1 d4)).nil (hadF4 a1 d4)
  refine V_dup C dX0_init_19 rfl ?_
  refine V_invI C dX0_init_20 (c_Row_init r2 a2 hr ((hfrF4 a2 d6.symm).trans h4')) mi_0_11 rfl (Nat.le_of_ble_eq_true rfl) ⟨Nat.le_of_ble_eq_true rfl, Nat.le_of_ble_eq_true rfl⟩ ⟨Nat.le_of_ble_eq_true rfl, Nat.le_of_ble_eq_true rfl⟩ (fun _ _ _ h => VT_no h) (fun v ad4 F5 hp => ?_)
  obtain ⟨rfl, had5, hR2, hf5⟩ := hp
  rw [show ad3 o = ad4 o from (had5 o n4).symm, show ad3 r2 = ad4 r2 from (had5 r2 d6).symm]
  have ho := (hf5 o (by simp [n3, n4])).trans ho
  rw [show ad3 r1 = ad4 r1 from (had5 r1 d3).symm] at ho
  have hR1 := (hR1.kept (hf5 r1 (by simp [d2, d3])) (hf5 a1 (by simp [d4, d5]))).nil (had5 a1 d5)
  refine G_putF C rfl dX0_init_23 fp_0_18 ho rfl rfl (Nat.le_of_ble_eq_true rfl) (fun F6 ho hfrF6 => ?_)
  dsimp only [List.set] at ho
  refine V_aload_n C dX0_init_26 rfl ?_
  refine V_iconst (v := 1) C dX0_init_27 rfl ?_
  refine G_put C dX0_init_28 fp_0_21 ho rfl rfl (Nat.le_of_ble_eq_true rfl) (fun F7 ho hfrF7 => ?_)
  dsimp only [List.set] at ho
  refine V_aload_n C dX0_init_31 rfl ?_
  refine V_iconst (v := 2) C dX0_init_32 rfl ?_
  refine G_put C dX0_init_33 fp_0_25 ho rfl rfl (Nat.le_of_ble_eq_true rfl) (fun F8 ho hfrF8 => ?_)
  dsimp only [List.set] at ho
  refine V_aload_n C dX0_init_36 rfl ?_
  refine V_iconst (v := 5) C dX0_init_37 rfl ?_
  refine G_put C dX0_init_38 fp_0_29 ho rfl rfl (Nat.le_of_ble_eq_true rfl) (fun F9 ho hfrF9 => ?_)
  dsimp only [List.set] at ho
  have hl : ∀ x, x ≠ o → F9 x = F5 x := fun x hx => (hfrF9 x hx).trans ((hfrF8 x hx).trans ((hfrF7 x hx).trans (hfrF6 x hx)))
  refine V_return C Q dX0_init_41 (Nat.le_of_ble_eq_true rfl) (Nat.le_of_ble_eq_true rfl) ⟨rfl, fun x hx => ?_, ho, hR1.kept (hl r1 n1.symm) (hl a1 n2.symm), hR2.kept (hl r2 n3.symm) (hl a2 n4.symm), fun x hx => ?_⟩
  · simp only [List.mem_cons, not_or] at hx
    exact (had5 x hx.2.2.2.1).trans ((hadF4 x hx.2.2.1).trans ((had2 x hx.2.1).trans (hadF1 x hx.1)))
  · simp only [List.mem_cons, not_or] at hx
    exact (hl x hx.1).trans ((hf5 x (by simp [hx])).trans ((hfrF4 x hx.2.2.2.1).trans ((hfrF3 x hx.1).trans ((hf2 x (by simp [hx])).trans (hfrF1 x hx.2.1)))))
set_option maxHeartbeats 400000 in
set_option maxRecDepth 100000 in
/-- Text() -/
theorem c_Text_init {l : Launch} {D : Dx} {b0 : Nat} {ad : Nat → Nat} {F : Fn} (o r s : Nat) (ho : F o = some (oB 5 [.null, .int 0, .int 0, .int 0, .null, .int 0])) (h1 : F r = none) (h2 : F s = none) (d1 : r ≠ s) : Ct l D b0 yX5_init (wsA yX5_init cX5_init 1 none) (rC 1 2 410) [.ref (ad o)] ad F (fun v ad1 F1 => v = none ∧ (∀ x, x ∉ [r, s] → ad1 x = ad x) ∧ TextAt D ad1 F1 o r s [] ∧ ∀ x, x ∉ [o, r, s] → F1 x = F x) noX := by
  refine Ct.of (by decide +kernel) (by simp [Value.category]) (Nat.le_of_ble_eq_true rfl) (fun X eD eb el C Q => ?_)
  subst eD; subst eb; subst el
  have n1 : o ≠ r := fun e => by rw [e, h1] at ho; cases ho
  have n2 : o ≠ s := fun e => by rw [e, h2] at ho; cases ho
  refine V_aload_n C dX5_init_0 rfl ?_
  refine V_objInit C dX5_init_1 mo_5_3 mo_i mo_c (Nat.le_of_ble_eq_true rfl) (Nat.le_of_ble_eq_true rfl) rfl ?_
  refine V_aload_n C dX5_init_4 rfl ?_
  refine V_sipush (v := 400) C dX5_init_5 (by decide) ?_
  refine G_newi r C dX5_init_8 ar_int h1 rfl (by decide) (Nat.le_of_ble_eq_true rfl) (Nat.le_of_ble_eq_true rfl) (fun ad1 F1 hadF1 hr hfrF1 => ?_)
  rw [show ad o = ad1 o from (hadF1 o n1).symm]
  have ho := (hfrF1 o n1).trans ho
  refine G_putF C rfl dX5_init_10 fp_5_9 ho rfl rfl (Nat.le_of_ble_eq_true rfl) (fun F2 ho hfrF2 => ?_)
  dsimp only [List.set] at ho
  refine V_aload_n C dX5_init_13 rfl ?_
  refine V_iconst (v := 0) C dX5_init_14 rfl ?_
  refine G_put C dX5_init_15 fp_5_15 ho rfl rfl (Nat.le_of_ble_eq_true rfl) (fun F3 ho hfrF3 => ?_)
  dsimp only [List.set] at ho
  refine V_aload_n C dX5_init_18 rfl ?_
  refine V_iconst (v := 0) C dX5_init_19 rfl ?_
  refine G_put C dX5_init_20 fp_5_19 ho rfl rfl (Nat.le_of_ble_eq_true rfl) (fun F4 ho hfrF4 => ?_)
  dsimp only [List.set] at ho
  refine V_aload_n C dX5_init_23 rfl ?_
  refine V_iconst (v := 0) C dX5_init_24 rfl ?_
  refine G_put C dX5_init_25 fp_5_22 ho rfl rfl (Nat.le_of_ble_eq_true rfl) (fun F5 ho hfrF5 => ?_)
  dsimp only [List.set] at ho
  refine V_aload_n C dX5_init_28 rfl ?_
  refine V_bipush (v := 7) C dX5_init_29 (by decide) ?_
  have hl : ∀ x, x ≠ o → F5 x = F1 x := fun x hx => (hfrF5 x hx).trans ((hfrF4 x hx).trans ((hfrF3 x hx).trans (hfrF2 x hx)))
  have h2' : F5 s = none := (hl s n2.symm).trans ((hfrF1 s d1.symm).trans h2)
  refine G_newi s C dX5_init_31 ar_int h2' rfl (by decide) (Nat.le_of_ble_eq_true rfl) (Nat.le_of_ble_eq_true rfl) (fun ad2 F6 hadF6 hs hfrF6 => ?_)
  rw [show ad1 o = ad2 o from (hadF6 o n2).symm]
  have ho := (hfrF6 o n2).trans ho
  rw [show ad1 r = ad2 r from (hadF6 r d1).symm] at ho
  refine G_putF C rfl dX5_init_33 fp_5_26 ho rfl rfl (Nat.le_of_ble_eq_true rfl) (fun F7 ho hfrF7 => ?_)
  dsimp only [List.set] at ho
  refine V_aload_n C dX5_init_36 rfl ?_
  refine V_iconst (v := 0) C dX5_init_37 rfl ?_
  refine G_put C dX5_init_38 fp_5_29 ho rfl rfl (Nat.le_of_ble_eq_true rfl) (fun F8 ho hfrF8 => ?_)
  dsimp only [List.set] at ho
  have hl2 : ∀ x, x ≠ o → F8 x = F6 x := fun x hx => (hfrF8 x hx).trans (hfrF7 x hx)
  have hr1 := (hl2 r n1.symm).trans ((hfrF6 r d1).trans ((hl r n1.symm).trans hr))
  have hs1 := (hl2 s n2.symm).trans hs
  refine V_return C Q dX5_init_41 (Nat.le_of_ble_eq_true rfl) (Nat.le_of_ble_eq_true rfl) ⟨rfl, fun x hx => ?_, ⟨ho, ⟨by decide, fun x hx => absurd hx (List.not_mem_nil), _, hr1, fun j hj => absurd hj (Nat.not_lt_zero j)⟩, _, hs1, fun h => absurd rfl h⟩, fun x hx => ?_⟩
  · simp only [List.mem_cons, not_or] at hx
    exact (hadF6 x hx.2.1).trans (hadF1 x hx.1)
  · simp only [List.mem_cons, not_or] at hx
    exact (hl2 x hx.1).trans ((hfrF6 x hx.2.2.1).trans ((hl x hx.1).trans (hfrF1 x hx.2.1)))
set_option maxHeartbeats 400000 in
set_option maxRecDepth 100000 in
/-- Reception() -/
theorem c_Reception_init {l : Launch} {D : Dx} {b0 : Nat} {ad : Nat → Nat} {F : Fn} (o k s la : Nat) (ho : F o = some (oB 3 [.null, .null, .null])) (h1 : F k = none) (h2 : F s = none) (h3 : F la = none) (d1 : k ≠ s) (d2 : k ≠ la) (d3 : s ≠ la) : Ct l D b0 yX3_init (wsA yX3_init cX3_init 1 none) (rC 2 3 24) [.ref (ad o)] ad F (fun v ad1 F1 => v = none ∧ (∀ x, x ∉ [k, s, la] → ad1 x = ad x) ∧ RcpAt ad1 F1 o k s la ∧ (∃ f : Nat → Int32, F1 k = some (aI D 5 f) ∧ ∀ j, j < 5 → f j = -1) ∧ (∃ f : Nat → Int32, F1 s = some (aI D 9 f) ∧ ∀ j, j < 9 → f j = 0) ∧ (∃ f : Nat → Int32, F1 la = some (aI D 9 f) ∧ ∀ j, j < 9 → f j = 0) ∧ ∀ x, x ∉ [o, k, s, la] → F1 x = F x) noX := by
  refine Ct.of (by decide +kernel) (by simp [Value.category]) (Nat.le_of_ble_eq_true rfl) (fun X eD eb el C Q => ?_)
  subst eD; subst eb; subst el
  have n1 : o ≠ k := fun e => by rw [e, h1] at ho; cases ho
  have n2 : o ≠ s := fun e => by rw [e, h2] at ho; cases ho
  have n3 : o ≠ la := fun e => by rw [e, h3] at ho; cases ho
  refine V_aload_n C dX3_init_0 rfl ?_
  refine V_objInit C dX3_init_1 mo_3_3 mo_i mo_c (Nat.le_of_ble_eq_true rfl) (Nat.le_of_ble_eq_true rfl) rfl ?_
  refine V_aload_n C dX3_init_4 rfl ?_
  refine V_iconst (v := 5) C dX3_init_5 rfl ?_
  refine G_newi k C dX3_init_6 ar_int h1 rfl (by decide) (Nat.le_of_ble_eq_true rfl) (Nat.le_of_ble_eq_true rfl) (fun ad1 F1 hadF1 hk hfrF1 => ?_)
  rw [show ad o = ad1 o from (hadF1 o n1).symm]
  have ho := (hfrF1 o n1).trans ho
  refine G_putF C rfl dX3_init_8 fp_3_9 ho rfl rfl (Nat.le_of_ble_eq_true rfl) (fun F2 ho hfrF2 => ?_)
  dsimp only [List.set] at ho
  refine V_aload_n C dX3_init_11 rfl ?_
  refine V_bipush (v := 9) C dX3_init_12 (by decide) ?_
  have h2' : F2 s = none := (hfrF2 s n2.symm).trans ((hfrF1 s d1.symm).trans h2)
  refine G_newi s C dX3_init_14 ar_int h2' rfl (by decide) (Nat.le_of_ble_eq_true rfl) (Nat.le_of_ble_eq_true rfl) (fun ad2 F3 hadF3 hs hfrF3 => ?_)
  rw [show ad1 o = ad2 o from (hadF3 o n2).symm]
  have ho := (hfrF3 o n2).trans ho
  rw [show ad1 k = ad2 k from (hadF3 k d1).symm] at ho
  refine G_putF C rfl dX3_init_16 fp_3_15 ho rfl rfl (Nat.le_of_ble_eq_true rfl) (fun F4 ho hfrF4 => ?_)
  dsimp only [List.set] at ho
  refine V_aload_n C dX3_init_19 rfl ?_
  refine V_bipush (v := 9) C dX3_init_20 (by decide) ?_
  have h3' : F4 la = none := (hfrF4 la n3.symm).trans ((hfrF3 la d3.symm).trans ((hfrF2 la n3.symm).trans ((hfrF1 la d2.symm).trans h3)))
  refine G_newi la C dX3_init_22 ar_int h3' rfl (by decide) (Nat.le_of_ble_eq_true rfl) (Nat.le_of_ble_eq_true rfl) (fun ad3 F5 hadF5 hla hfrF5 => ?_)
  rw [show ad2 o = ad3 o from (hadF5 o n3).symm]
  have ho := (hfrF5 o n3).trans ho
  rw [show ad2 k = ad3 k from (hadF5 k d2).symm, show ad2 s = ad3 s from (hadF5 s d3).symm] at ho
  refine G_putF C rfl dX3_init_24 fp_3_18 ho rfl rfl (Nat.le_of_ble_eq_true rfl) (fun F6 ho hfrF6 => ?_)
  dsimp only [List.set] at ho
  have hk := (hfrF6 k n1.symm).trans ((hfrF5 k d2).trans ((hfrF4 k n1.symm).trans ((hfrF3 k d1).trans ((hfrF2 k n1.symm).trans hk))))
  have hs := (hfrF6 s n2.symm).trans ((hfrF5 s d3).trans ((hfrF4 s n2.symm).trans hs))
  have hla := (hfrF6 la n3.symm).trans hla
  refine V_aload_n C dX3_init_27 rfl ?_
  refine V_get C dX3_init_28 fr_3_9 ho rfl ?_
  refine V_iconst (v := (-1)) C dX3_init_31 rfl ?_
  refine V_invS C dX3_init_32 (c_fill k 5 (fun _ => 0) (-1) hk (by decide)) ms_3_21 rfl (Nat.le_of_ble_eq_true rfl) ⟨Nat.le_of_ble_eq_true rfl, Nat.le_of_ble_eq_true rfl⟩ ⟨Nat.le_of_ble_eq_true rfl, Nat.le_of_ble_eq_true rfl⟩ (fun _ _ _ h => VT_no h) (fun v ad4 F7 hp => ?_)
  obtain ⟨rfl, rfl, hk, hf7⟩ := hp
  refine V_return C Q dX3_init_35 (Nat.le_of_ble_eq_true rfl) (Nat.le_of_ble_eq_true rfl) ⟨rfl, fun x hx => ?_, (hf7 o n1).trans ho, hk, ⟨_, (hf7 s d1.symm).trans hs, fun _ _ => rfl⟩, ⟨_, (hf7 la d2.symm).trans hla, fun _ _ => rfl⟩, fun x hx => ?_⟩
  · simp only [List.mem_cons, not_or] at hx
    exact (hadF5 x hx.2.2.1).trans ((hadF3 x hx.2.1).trans (hadF1 x hx.1))
  · simp only [List.mem_cons, not_or] at hx
    exact (hf7 x hx.2.1).trans ((hfrF6 x hx.1).trans ((hfrF5 x hx.2.2.2.1).trans ((hfrF4 x hx.1).trans ((hfrF3 x hx.2.2.1).trans ((hfrF2 x hx.1).trans (hfrF1 x hx.2.1))))))
theorem TextAt.ad {D : Dx} {ad ad' : Nat → Nat} {F : Fn} {t r s : Nat} {L : List Nat} (h : TextAt D ad F t r s L) (e1 : ad' r = ad r) (e2 : ad' s = ad s) : TextAt D ad' F t r s L := by
  refine ⟨?_, h.2⟩
  have h1 := h.1
  unfold TxO at h1 ⊢
  rw [e1, e2]
  exact h1
theorem shm_ok : ∀ k, k < 7 → (1 : Int32) <<< (nI k &&& 31) - 1 = nI (2 ^ k - 1) := by decide +kernel
set_option maxHeartbeats 400000 in
set_option maxRecDepth 100000 in
/-- Message(..) -/
theorem c_Message_init {l : Launch} {D : Dx} {b0 : Nat} {ad : Nat → Nat} {F : Fn} (c t r s sg sa lk : Nat) (num rcv en : Int32) (L : List Nat) (ho : F c = some (oB 1 [.int 0, .int 0, .int 0, .null, .null, .null, .int 0, .int 0, .int 0])) (hT : TextAt D ad F t r s L) (hne : L ≠ []) (h1 : F sg = none) (h2 : F sa = none) (hd : t ≠ c ∧ r ≠ c ∧ s ≠ c ∧ sg ≠ c ∧ sa ≠ c ∧ t ≠ sg ∧ r ≠ sg ∧ s ≠ sg ∧ t ≠ sa ∧ r ≠ sa ∧ s ≠ sa ∧ sg ≠ sa) : Ct l D b0 yX1_init (wsA yX1_init cX1_init 6 none) (rC 3 2 800) [.ref (ad c), .int num, .int rcv, .int en, .ref lk, .ref (ad t)] ad F (fun v ad1 F1 => v = none ∧ (∀ x, x ∉ [sg, sa] → ad1 x = ad x) ∧ MsgAt F1 c num rcv en lk (ad1 sg) (ad1 sa) (nI (npL L)) (nI 0) (nI (2 ^ npL L - 1)) ∧ (∃ f : Nat → Int32, F1 sg = some (aI D L.length f) ∧ ∀ j, j < L.length → f j = nI (L.getD j 0)) ∧ (∃ f : Nat → Int32, F1 sa = some (aI D (npL L + 1) f) ∧ ∀ j, j ≤ npL L → f j = nI (posL L j)) ∧ ∀ x, x ∉ [c, sg, sa] → F1 x = F x) noX := by
  refine Ct.of (by decide +kernel) (by simp [Value.category]) (Nat.le_of_ble_eq_true rfl) (fun X eD eb el C Q => ?_)
  subst eD; subst eb; subst el
  obtain ⟨e1, e2, e3, e4, e5, e6, e7, e8, e9, e10, e11, e12⟩ := hd
  have hnp := (npL_spec hT.2.1.1).1
  refine V_aload_n C dX1_init_0 rfl ?_
  refine V_objInit C dX1_init_1 mo_1_3 mo_i mo_c (Nat.le_of_ble_eq_true rfl) (Nat.le_of_ble_eq_true rfl) rfl ?_
  refine V_aload_n C dX1_init_4 rfl ?_
  refine V_iconst (v := 0) C dX1_init_5 rfl ?_
  refine G_put C dX1_init_6 fp_1_9 ho rfl rfl (Nat.le_of_ble_eq_true rfl) (fun F1 ho hfrF1 => ?_)
  dsimp only [List.set] at ho
  refine V_aload_n C dX1_init_9 rfl ?_
  refine V_iload_n C dX1_init_10 rfl ?_
  refine G_putF C rfl dX1_init_11 fp_1_15 ho rfl rfl (Nat.le_of_ble_eq_true rfl) (fun F2 ho hfrF2 => ?_)
  dsimp only [List.set] at ho
  refine V_aload_n C dX1_init_14 rfl ?_
  refine V_iload_n C dX1_init_15 rfl ?_
  refine G_putF C rfl dX1_init_16 fp_1_18 ho rfl rfl (Nat.le_of_ble_eq_true rfl) (fun F3 ho hfrF3 => ?_)
  dsimp only [List.set] at ho
  refine V_aload_n C dX1_init_19 rfl ?_
  refine V_iload_n C dX1_init_20 rfl ?_
  refine G_putF C rfl dX1_init_21 fp_1_21 ho rfl rfl (Nat.le_of_ble_eq_true rfl) (fun F4 ho hfrF4 => ?_)
  dsimp only [List.set] at ho
  refine V_aload_n C dX1_init_24 rfl ?_
  refine V_aload C dX1_init_25 rfl ?_
  refine G_putF C rfl dX1_init_27 fp_1_24 ho rfl rfl (Nat.le_of_ble_eq_true rfl) (fun F5 ho hfrF5 => ?_)
  dsimp only [List.set] at ho
  refine V_aload_n C dX1_init_30 rfl ?_
  refine V_aload C dX1_init_31 rfl ?_
  have hl : ∀ x, x ≠ c → F5 x = F x := fun x hx => (hfrF5 x hx).trans ((hfrF4 x hx).trans ((hfrF3 x hx).trans ((hfrF2 x hx).trans (hfrF1 x hx))))
  have hT1 := TxtK hT (hl t e1) (hl r e2) (hl s e3)
  have ht := hT1.1
  unfold TxO at ht
  refine V_invV C dX1_init_33 ht rfl (c_copyOfSigns t r s sg L hT1 ((hl sg e4).trans h1)) mv_1_28 rfl (Nat.le_of_ble_eq_true rfl) ⟨Nat.le_of_ble_eq_true rfl, Nat.le_of_ble_eq_true rfl⟩ ⟨Nat.le_of_ble_eq_true rfl, Nat.le_of_ble_eq_true rfl⟩ (fun _ _ _ h => VT_no h) (fun v ad1 F6 hp => ?_)
  obtain ⟨rfl, had1, hsg, hf6⟩ := hp
  rw [show ad c = ad1 c from (had1 c e4.symm).symm, show ad t = ad1 t from (had1 t e6).symm]
  have ho := (hf6 c e4.symm).trans ho
  refine G_putF C rfl dX1_init_36 fp_1_34 ho rfl rfl (Nat.le_of_ble_eq_true rfl) (fun F7 ho hfrF7 => ?_)
  dsimp only [List.set] at ho
  refine V_aload_n C dX1_init_39 rfl ?_
  refine V_aload C dX1_init_40 rfl ?_
  have hT2 := (TxtK hT1 ((hfrF7 t e1).trans (hf6 t e6)) ((hfrF7 r e2).trans (hf6 r e7)) ((hfrF7 s e3).trans (hf6 s e8))).ad (had1 r e7) (had1 s e8)
  have ht := hT2.1
  unfold TxO at ht
  have h2' : F7 sa = none := (hfrF7 sa e5).trans ((hf6 sa e12.symm).trans ((hl sa e5).trans h2))
  refine V_invV C dX1_init_42 ht rfl (c_copyOfStarts t r s sa L hT2 h2' hne) mv_1_38 rfl (Nat.le_of_ble_eq_true rfl) ⟨Nat.le_of_ble_eq_true rfl, Nat.le_of_ble_eq_true rfl⟩ ⟨Nat.le_of_ble_eq_true rfl, Nat.le_of_ble_eq_true rfl⟩ (fun _ _ _ h => VT_no h) (fun v ad2 F8 hp => ?_)
  obtain ⟨rfl, had2, hsa, hf8⟩ := hp
  rw [show ad1 c = ad2 c from (had2 c e5.symm).symm, show ad1 t = ad2 t from (had2 t e9).symm]
  have ho := (hf8 c e5.symm).trans ho
  rw [show ad1 sg = ad2 sg from (had2 sg e12).symm] at ho
  refine G_putF C rfl dX1_init_45 fp_1_41 ho rfl rfl (Nat.le_of_ble_eq_true rfl) (fun F9 ho hfrF9 => ?_)
  dsimp only [List.set] at ho
  have hT3 := (TxtK hT2 ((hfrF9 t e1).trans (hf8 t e9)) ((hfrF9 r e2).trans (hf8 r e10)) ((hfrF9 s e3).trans (hf8 s e11))).ad (had2 r e10) (had2 s e11)
  have ht := hT3.1
  unfold TxO at ht
  refine V_aload_n C dX1_init_48 rfl ?_
  refine V_aload C dX1_init_49 rfl ?_
  refine V_get C dX1_init_51 fr_1_44 ht rfl ?_
  refine G_putF C rfl dX1_init_54 fp_1_47 ho rfl rfl (Nat.le_of_ble_eq_true rfl) (fun F10 ho hfrF10 => ?_)
  dsimp only [List.set] at ho
  have ht := (hfrF10 t e1).trans ht
  refine V_aload_n C dX1_init_57 rfl ?_
  refine V_iconst (v := 1) C dX1_init_58 rfl ?_
  refine V_aload C dX1_init_59 rfl ?_
  refine V_get C dX1_init_61 fr_1_44 ht rfl ?_
  refine V_ishl C dX1_init_64 ?_
  refine V_iconst (v := 1) C dX1_init_65 rfl ?_
  refine V_isub C dX1_init_66 ?_
  refine V_nm (shm_ok _ (by omega)) ?_
  refine G_put C dX1_init_67 fp_1_48 ho rfl rfl (Nat.le_of_ble_eq_true rfl) (fun F11 ho hfrF11 => ?_)
  dsimp only [List.set] at ho
  have hl3 : ∀ x, x ≠ c → F11 x = F8 x := fun x hx => (hfrF11 x hx).trans ((hfrF10 x hx).trans (hfrF9 x hx))
  refine V_return C Q dX1_init_70 (Nat.le_of_ble_eq_true rfl) (Nat.le_of_ble_eq_true rfl) ⟨rfl, fun x hx => ?_, ho, hsg.imp fun f hf => ⟨(hl3 sg e4).trans ((hf8 sg e12).trans ((hfrF7 sg e4).trans hf.1)), hf.2⟩, hsa.imp fun f hf => ⟨(hl3 sa e5).trans hf.1, hf.2⟩, fun x hx => ?_⟩
  · simp only [List.mem_cons, not_or] at hx
    exact (had2 x hx.2.1).trans (had1 x hx.1)
  · simp only [List.mem_cons, not_or] at hx
    exact (hl3 x hx.1).trans ((hf8 x hx.2.2.1).trans ((hfrF7 x hx.1).trans ((hf6 x hx.2.1).trans (hl x hx.1))))
abbrev st0S : St := (0, 0, [], [], fun _ => 1, fun _ => 2, fun _ => 5, fun _ => [], fun _ => 0, fun _ => 0, fun _ => 0, fun _ => 0, fun _ => [], fun _ => 0, fun _ => 0, fun _ => 0, fun _ => -1, fun _ => 0, fun _ => 0)
/-- the cells that stand when i links do -/
def usd (i x : Nat) : Prop := x ≤ 10 ∨ (11 ≤ x ∧ x < 11 + i) ∨ (14 ≤ x ∧ x < 14 + 2 * i) ∨ (20 ≤ x ∧ x < 20 + 2 * i)
def I0 (D : Dx) (i : Nat) (ad : Nat → Nat) (G : Fn) : Prop :=
  G 0 = some (oB 6 [.ref (ad 1), .ref (ad 4), .int 0, .ref (ad 5), .int 0, .ref (ad 6), .ref (ad 7), .int 0]) ∧ TextAt D ad G 1 2 3 [] ∧ (G 4 = some (aQ D 4 20 (fun _ => none))) ∧ G 5 = some (aI D 20 (fun _ => 0)) ∧ kRec D ad G (fun _ => -1) (fun _ => 0) (fun _ => 0) ∧
  (∀ l, l < i → LinkAt ad G (11 + l) (14 + 2 * l) (15 + 2 * l) (nI 1) (nI 2) (nI 5)) ∧ (∀ r, r < 2 * i → RowAt D ad G (14 + r) (20 + r) []) ∧ (∀ x, ¬ usd i x → x < 300 → G x = none) ∧ ∃ f : Nat → Option Nat, G 6 = some (aQ D 5 3 f) ∧ ∀ l, l < i → f l = some (ad (11 + l))
theorem I0.kept {D : Dx} {i : Nat} {ad ad' : Nat → Nat} {F G : Fn} (h : I0 D i ad F) (ea : ∀ x, usd i x → ad' x = ad x) (e : ∀ x, usd i x → G x = F x) (hn : ∀ x, ¬ usd i x → x < 300 → G x = none) : I0 D i ad' G := by
  unfold usd at ea e
  obtain ⟨h0, h1, h2, h3, h4, h5, h6, -, h8⟩ := h
  refine ⟨(e 0 (by omega)).trans ?_, (TxtK h1 (e _ (by omega)) (e _ (by omega)) (e _ (by omega))).ad (ea _ (by omega)) (ea _ (by omega)), (e _ (by omega)).trans h2, (e _ (by omega)).trans h3, ?_, fun l hl => ?_, fun r hr => ?_, hn, h8.imp fun f hf => ⟨(e _ (by omega)).trans hf.1, fun l hl => ?_⟩⟩
  · rw [ea 1 (by omega), ea 4 (by omega), ea 5 (by omega), ea 6 (by omega), ea 7 (by omega)]; exact h0
  · have h4' := h4.kept (e 7 (by omega)) (e 8 (by omega)) (e 9 (by omega)) (e 10 (by omega))
    refine ⟨?_, h4'.2⟩
    have := h4'.1
    unfold RcpAt at this ⊢
    rw [ea 8 (by omega), ea 9 (by omega), ea 10 (by omega)]
    exact this
  · have := h5 l hl
    unfold LinkAt at this ⊢
    rw [ea (14 + 2 * l) (by omega), ea (15 + 2 * l) (by omega), e (11 + l) (by omega)]
    exact this
  · exact ((h6 r hr).kept (e _ (by omega)) (e _ (by omega))).nil (ea _ (by omega))
  · rw [ea (11 + l) (by omega)]; exact hf.2 l hl
theorem I0.done {D : Dx} {ad : Nat → Nat} {G : Fn} (h : I0 D 3 ad G) : CRep D ad G st0S := by
  obtain ⟨h0, h1, h2, h3, h4, h5, h6, h7, h8⟩ := h
  unfold usd at h7
  exact ⟨h0, h1, ⟨_, h2, fun m _ => (if_neg (Nat.not_lt_zero m)).symm⟩, ⟨_, h3, fun j hj => absurd hj (Nat.not_lt_zero j)⟩, h8, h4, h5, h6, fun m hm => absurd hm (Nat.not_lt_zero m), fun m hm => absurd hm (Nat.not_lt_zero m), fun m _ hm => ⟨h7 _ (by omega) (by omega), h7 _ (by omega) (by omega), h7 _ (by omega) (by omega), fun p hp => h7 _ (by omega) (by omega)⟩⟩
set_option maxHeartbeats 1000000 in
set_option maxRecDepth 100000 in
/-- Shortmessage() -/
theorem c_Shortmessage_init {l : Launch} {D : Dx} {b0 : Nat} {ad : Nat → Nat} {F : Fn}  (ho : F 0 = some (oB 6 [.null, .null, .int 0, .null, .int 0, .null, .null, .int 0])) (hn : ∀ x, 1 ≤ x → x < 300 → F x = none) : Ct l D b0 yX6_init (wsA yX6_init cX6_init 2 none) (rC 3 26 1300) [.ref (ad 0)] ad F (fun v ad1 F1 => v = none ∧ (∀ x, x = 0 ∨ 300 ≤ x → ad1 x = ad x) ∧ CRep D ad1 F1 st0S ∧ ∀ x, 300 ≤ x → F1 x = F x) noX := by
  refine Ct.of (by decide +kernel) (by simp [Value.category]) (Nat.le_of_ble_eq_true rfl) (fun X eD eb el C Q => ?_)
  subst eD; subst eb; subst el
  have step : ∀ (i k n : Nat) (ad' : Nat → Nat) (G : Fn), i < 3 → k + 5 ≤ 26 → n + 255 ≤ 1300 → I0 (xD X) i ad' G → (∀ (ad2 : Nat → Nat) (G2 : Fn), (∀ x, x = 0 ∨ 300 ≤ x → ad2 x = ad' x) → (∀ x, 300 ≤ x → G2 x = G x) → I0 (xD X) (i + 1) ad2 G2 → V X (k + 5) (n + 255) 68 [(0, .ref (ad2 0)), (1, .int (nI (i + 1)))] [] ad2 G2) → V X k n 68 [(0, .ref (ad' 0)), (1, .int (nI i))] [] ad' G := by
    intro i k n ad' G hi hk hn h0 K
    have ho := h0.1
    have hnn := h0.2.2.2.2.2.2.2.1
    unfold usd at hnn
    obtain ⟨f, hla, hf⟩ := h0.2.2.2.2.2.2.2.2
    refine V_iload_n C dX6_init_68 rfl ?_
    refine V_aload_n C dX6_init_69 rfl ?_
    refine V_get C dX6_init_70 fr_6_35 ho rfl ?_
    refine V_alen C dX6_init_73 hla rfl ?_
    refine V_icmpge_f (tgt := 96) C dX6_init_74 (by decide) (nI_ge (a := i) (b := 3) (by omega) (by decide)) ?_
    refine V_aload_n C dX6_init_77 rfl ?_
    refine V_get C dX6_init_78 fr_6_35 ho rfl ?_
    refine V_iload_n C dX6_init_81 rfl ?_
    refine G_new (11 + i) C dX6_init_82 nw_6_33 (hnn _ (by omega) (by omega)) (by show k + 1 ≤ 26; omega) (by show n + 5 ≤ 1300; omega) (fun ad1 F1 had1 hk1 hfr1 => ?_)
    rw [show ad' 0 = ad1 0 from (had1 0 (by omega)).symm, show ad' 6 = ad1 6 from (had1 6 (by omega)).symm]
    refine V_dup C dX6_init_85 rfl ?_
    refine V_invI C dX6_init_86 (c_Link_init (11 + i) (14 + 2 * i) (20 + 2 * i) (15 + 2 * i) (21 + 2 * i) hk1 ((hfr1 _ (by omega)).trans (hnn _ (by omega) (by omega))) ((hfr1 _ (by omega)).trans (hnn _ (by omega) (by omega))) ((hfr1 _ (by omega)).trans (hnn _ (by omega) (by omega))) ((hfr1 _ (by omega)).trans (hnn _ (by omega) (by omega))) (by omega) (by omega) (by omega) (by omega) (by omega) (by omega)) mi_6_49 rfl (Nat.le_of_ble_eq_true rfl) (by first | exact ⟨Nat.le_of_ble_eq_true rfl, Nat.le_of_ble_eq_true rfl⟩ | exact ⟨by show k + 1 + 4 ≤ 26; omega, by show n + 5 + 250 ≤ 1300; omega⟩) (by first | exact ⟨Nat.le_of_ble_eq_true rfl, Nat.le_of_ble_eq_true rfl⟩ | exact ⟨by show k + 1 + 4 ≤ 26; omega, by show n + 5 + 250 ≤ 1300; omega⟩) (fun _ _ _ h => VT_no h) (fun v ad2 F2 hp => ?_)
    obtain ⟨rfl, had2, hL, hR1, hR2, hf2⟩ := hp
    simp only [List.mem_cons, List.not_mem_nil, or_false, not_or] at had2 hf2
    rw [show ad1 0 = ad2 0 from (had2 0 (by omega)).symm, show ad1 6 = ad2 6 from (had2 6 (by omega)).symm, show ad1 (11 + i) = ad2 (11 + i) from (had2 (11 + i) (by omega)).symm]
    have hla := (hf2 6 (by omega)).trans ((hfr1 6 (by omega)).trans hla)
    have hlk := hL
    unfold LinkAt at hlk
    refine G_aast C dX6_init_89 hla rfl hlk rfl rfl hi (by decide) (fun F3 hla hfr => ?_)
    refine V_iinc C dX6_init_90 rfl (nI_inc _) (by decide) ?_
    refine V_goto (tgt := 68) C dX6_init_93 (by decide) ?_
    refine V_sb (K ad2 F3 (fun x hx => (had2 x (by omega)).trans (had1 x (by omega))) (fun x hx => (hfr x (by omega)).trans ((hf2 x (by omega)).trans (hfr1 x (by omega)))) ?_) ⟨rfl, rfl, trivial⟩
    have hu : ∀ x, usd i x → x ≠ 6 → F3 x = G x := fun x hx h6 => (hfr x h6).trans ((hf2 x (by unfold usd at hx; omega)).trans (hfr1 x (by unfold usd at hx; omega)))
    have hau : ∀ x, usd i x → ad2 x = ad' x := fun x hx => (had2 x (by unfold usd at hx; omega)).trans (had1 x (by unfold usd at hx; omega))
    unfold usd at hu hau
    obtain ⟨h0, h1, h2, h3, h4, h5, h6, h7, h8⟩ := h0
    refine ⟨(hu 0 (by omega) (by omega)).trans ?_, (TxtK h1 (hu _ (by omega) (by omega)) (hu _ (by omega) (by omega)) (hu _ (by omega) (by omega))).ad (hau _ (by omega)) (hau _ (by omega)), (hu _ (by omega) (by omega)).trans h2, (hu _ (by omega) (by omega)).trans h3, ?_, fun l hl => ?_, fun r hr => ?_, fun x hx hx3 => ?_, _, hla, fun l hl => ?_⟩
    · rw [hau 1 (by omega), hau 4 (by omega), hau 5 (by omega), hau 6 (by omega), hau 7 (by omega)]; exact h0
    · have h4' := h4.kept (hu 7 (by omega) (by omega)) (hu 8 (by omega) (by omega)) (hu 9 (by omega) (by omega)) (hu 10 (by omega) (by omega))
      refine ⟨?_, h4'.2⟩
      have := h4'.1
      unfold RcpAt at this ⊢
      rw [hau 8 (by omega), hau 9 (by omega), hau 10 (by omega)]
      exact this
    · by_cases e : l = i
      · subst e; exact (hfr _ (by omega)).trans hL
      · have := h5 l (by omega)
        unfold LinkAt at this ⊢
        rw [hau (14 + 2 * l) (by omega), hau (15 + 2 * l) (by omega), hu (11 + l) (by omega) (by omega)]
        exact this
    · by_cases e : r = 2 * i
      · subst e; exact hR1.kept (hfr _ (by omega)) (hfr _ (by omega))
      · by_cases e2 : r = 2 * i + 1
        · subst e2
          rw [show 14 + (2 * i + 1) = 15 + 2 * i by omega, show 20 + (2 * i + 1) = 21 + 2 * i by omega]
          exact hR2.kept (hfr _ (by omega)) (hfr _ (by omega))
        · exact ((h6 r (by omega)).kept (hu _ (by omega) (by omega)) (hu _ (by omega) (by omega))).nil (hau _ (by omega))
    · unfold usd at hx
      exact (hfr x (by omega)).trans ((hf2 x (by omega)).trans ((hfr1 x (by omega)).trans (hnn x (by omega) hx3)))
    · show va_up f i _ l = _
      by_cases e : l = i
      · subst e; rw [up_s]
      · rw [up_n e, hau (11 + l) (by omega)]; exact hf l (by omega)
  refine V_aload_n C dX6_init_0 rfl ?_
  refine V_objInit C dX6_init_1 mo_6_1 mo_i mo_c (Nat.le_of_ble_eq_true rfl) (Nat.le_of_ble_eq_true rfl) rfl ?_
  refine V_aload_n C dX6_init_4 rfl ?_
  refine G_new 1 C dX6_init_5 nw_6_7 (hn 1 (by decide) (by decide)) (Nat.le_of_ble_eq_true rfl) (Nat.le_of_ble_eq_true rfl) (fun ad1 F1 hadF1 ht hfrF1 => ?_)
  rw [show ad 0 = ad1 0 from (hadF1 0 (by decide)).symm]
  have ho := (hfrF1 0 (by decide)).trans ho
  refine V_dup C dX6_init_8 rfl ?_
  refine V_invI C dX6_init_9 (c_Text_init 1 2 3 ht ((hfrF1 2 (by decide)).trans (hn 2 (by decide) (by decide))) ((hfrF1 3 (by decide)).trans (hn 3 (by decide) (by decide))) (by decide)) mi_6_9 rfl (Nat.le_of_ble_eq_true rfl) ⟨Nat.le_of_ble_eq_true rfl, Nat.le_of_ble_eq_true rfl⟩ ⟨Nat.le_of_ble_eq_true rfl, Nat.le_of_ble_eq_true rfl⟩ (fun _ _ _ h => VT_no h) (fun v ad2 F2 hp => ?_)
  obtain ⟨rfl, had2, hT, hf2⟩ := hp
  simp only [List.mem_cons, List.not_mem_nil, or_false, not_or] at had2 hf2
  rw [show ad1 0 = ad2 0 from (had2 0 (by decide)).symm, show ad1 1 = ad2 1 from (had2 1 (by decide)).symm]
  have ho := (hf2 0 (by decide)).trans ho
  refine G_putF C rfl dX6_init_12 fp_6_10 ho rfl rfl (Nat.le_of_ble_eq_true rfl) (fun F3 ho hfrF3 => ?_)
  dsimp only [List.set] at ho
  refine V_aload_n C dX6_init_15 rfl ?_
  refine V_bipush (v := 20) C dX6_init_16 (by decide) ?_
  have hn3 : ∀ x, 4 ≤ x → x < 300 → F3 x = none := fun x h1 h2 => (hfrF3 x (by omega)).trans ((hf2 x (by omega)).trans ((hfrF1 x (by omega)).trans (hn x (by omega) h2)))
  have hT := TxtK hT (hfrF3 1 (by decide)) (hfrF3 2 (by decide)) (hfrF3 3 (by decide))
  refine G_newq (Cn := RX1) (t := 4) (N := 20) 4 C dX6_init_18 cl_6_16 C.ev.2.2.2.2.2.2.1.2.1 rfl (hn3 4 (by decide) (by decide)) rfl (by decide) (Nat.le_of_ble_eq_true rfl) (Nat.le_of_ble_eq_true rfl) (fun ad4 F4 hadF4 hma hfrF4 => ?_)
  rw [show ad2 0 = ad4 0 from (hadF4 0 (by decide)).symm]
  have ho := (hfrF4 0 (by decide)).trans ho
  rw [show ad2 1 = ad4 1 from (hadF4 1 (by decide)).symm] at ho
  refine G_putF C rfl dX6_init_21 fp_6_18 ho rfl rfl (Nat.le_of_ble_eq_true rfl) (fun F5 ho hfrF5 => ?_)
  dsimp only [List.set] at ho
  refine V_aload_n C dX6_init_24 rfl ?_
  refine V_iconst (v := 0) C dX6_init_25 rfl ?_
  refine G_put C dX6_init_26 fp_6_22 ho rfl rfl (Nat.le_of_ble_eq_true rfl) (fun F6 ho hfrF6 => ?_)
  dsimp only [List.set] at ho
  refine V_aload_n C dX6_init_29 rfl ?_
  refine V_bipush (v := 20) C dX6_init_30 (by decide) ?_
  have hn6 : ∀ x, 5 ≤ x → x < 300 → F6 x = none := fun x h1 h2 => (hfrF6 x (by omega)).trans ((hfrF5 x (by omega)).trans ((hfrF4 x (by omega)).trans (hn3 x (by omega) h2)))
  have hT := (TxtK hT ((hfrF6 1 (by decide)).trans ((hfrF5 1 (by decide)).trans (hfrF4 1 (by decide)))) ((hfrF6 2 (by decide)).trans ((hfrF5 2 (by decide)).trans (hfrF4 2 (by decide)))) ((hfrF6 3 (by decide)).trans ((hfrF5 3 (by decide)).trans (hfrF4 3 (by decide))))).ad (hadF4 2 (by decide)) (hadF4 3 (by decide))
  have hma := (hfrF6 4 (by decide)).trans ((hfrF5 4 (by decide)).trans hma)
  refine G_newi 5 C dX6_init_32 ar_int (hn6 5 (by decide) (by decide)) rfl (by decide) (Nat.le_of_ble_eq_true rfl) (Nat.le_of_ble_eq_true rfl) (fun ad7 F7 hadF7 hra hfrF7 => ?_)
  rw [show ad4 0 = ad7 0 from (hadF7 0 (by decide)).symm]
  have ho := (hfrF7 0 (by decide)).trans ho
  rw [show ad4 1 = ad7 1 from (hadF7 1 (by decide)).symm, show ad4 4 = ad7 4 from (hadF7 4 (by decide)).symm] at ho
  refine G_putF C rfl dX6_init_34 fp_6_26 ho rfl rfl (Nat.le_of_ble_eq_true rfl) (fun F8 ho hfrF8 => ?_)
  dsimp only [List.set] at ho
  refine V_aload_n C dX6_init_37 rfl ?_
  refine V_iconst (v := 0) C dX6_init_38 rfl ?_
  refine G_put C dX6_init_39 fp_6_30 ho rfl rfl (Nat.le_of_ble_eq_true rfl) (fun F9 ho hfrF9 => ?_)
  dsimp only [List.set] at ho
  refine V_aload_n C dX6_init_42 rfl ?_
  refine V_iconst (v := 3) C dX6_init_43 rfl ?_
  have hn9 : ∀ x, 6 ≤ x → x < 300 → F9 x = none := fun x h1 h2 => (hfrF9 x (by omega)).trans ((hfrF8 x (by omega)).trans ((hfrF7 x (by omega)).trans (hn6 x (by omega) h2)))
  have k9 : ∀ x, x ≠ 0 → x ≠ 5 → F9 x = F6 x := fun x h0 h5 => (hfrF9 x h0).trans ((hfrF8 x h0).trans (hfrF7 x h5))
  have hT := (TxtK hT (k9 1 (by decide) (by decide)) (k9 2 (by decide) (by decide)) (k9 3 (by decide) (by decide))).ad (hadF7 2 (by decide)) (hadF7 3 (by decide))
  have hma := (k9 4 (by decide) (by decide)).trans hma
  have hra := (hfrF9 5 (by decide)).trans ((hfrF8 5 (by decide)).trans hra)
  refine G_newq (Cn := RX0) (t := 5) (N := 3) 6 C dX6_init_44 cl_6_33 C.ev.2.2.2.2.2.2.1.2.2 rfl (hn9 6 (by decide) (by decide)) rfl (by decide) (Nat.le_of_ble_eq_true rfl) (Nat.le_of_ble_eq_true rfl) (fun ad10 F10 hadF10 hla hfrF10 => ?_)
  rw [show ad7 0 = ad10 0 from (hadF10 0 (by decide)).symm]
  have ho := (hfrF10 0 (by decide)).trans ho
  rw [show ad7 1 = ad10 1 from (hadF10 1 (by decide)).symm, show ad7 4 = ad10 4 from (hadF10 4 (by decide)).symm, show ad7 5 = ad10 5 from (hadF10 5 (by decide)).symm] at ho
  refine G_putF C rfl dX6_init_47 fp_6_35 ho rfl rfl (Nat.le_of_ble_eq_true rfl) (fun F11 ho hfrF11 => ?_)
  dsimp only [List.set] at ho
  refine V_aload_n C dX6_init_50 rfl ?_
  have hn11 : ∀ x, 7 ≤ x → x < 300 → F11 x = none := fun x h1 h2 => (hfrF11 x (by omega)).trans ((hfrF10 x (by omega)).trans (hn9 x (by omega) h2))
  have k11 : ∀ x, x ≠ 0 → x ≠ 6 → F11 x = F9 x := fun x h0 h5 => (hfrF11 x h0).trans (hfrF10 x h5)
  have hT := (TxtK hT (k11 1 (by decide) (by decide)) (k11 2 (by decide) (by decide)) (k11 3 (by decide) (by decide))).ad (hadF10 2 (by decide)) (hadF10 3 (by decide))
  have hma := (k11 4 (by decide) (by decide)).trans hma
  have hra := (k11 5 (by decide) (by decide)).trans hra
  have hla := (hfrF11 6 (by decide)).trans hla
  refine G_new 7 C dX6_init_51 nw_6_39 (hn11 7 (by decide) (by decide)) (Nat.le_of_ble_eq_true rfl) (Nat.le_of_ble_eq_true rfl) (fun ad12 F12 hadF12 hrc hfrF12 => ?_)
  rw [show ad10 0 = ad12 0 from (hadF12 0 (by decide)).symm]
  have ho := (hfrF12 0 (by decide)).trans ho
  refine V_dup C dX6_init_54 rfl ?_
  refine V_invI C dX6_init_55 (c_Reception_init 7 8 9 10 hrc ((hfrF12 8 (by decide)).trans (hn11 8 (by decide) (by decide))) ((hfrF12 9 (by decide)).trans (hn11 9 (by decide) (by decide))) ((hfrF12 10 (by decide)).trans (hn11 10 (by decide) (by decide))) (by decide) (by decide) (by decide)) mi_6_41 rfl (Nat.le_of_ble_eq_true rfl) ⟨Nat.le_of_ble_eq_true rfl, Nat.le_of_ble_eq_true rfl⟩ ⟨Nat.le_of_ble_eq_true rfl, Nat.le_of_ble_eq_true rfl⟩ (fun _ _ _ h => VT_no h) (fun v ad13 F13 hp => ?_)
  obtain ⟨rfl, had13, hR1, hR2, hR3, hR4, hf13⟩ := hp
  simp only [List.mem_cons, List.not_mem_nil, or_false, not_or] at had13 hf13
  rw [show ad12 0 = ad13 0 from (had13 0 (by decide)).symm, show ad12 7 = ad13 7 from (had13 7 (by decide)).symm]
  have k13 : ∀ x, (x < 7 ∨ 10 < x) → F13 x = F11 x := fun x h => (hf13 x (by omega)).trans (hfrF12 x (by omega))
  have a13 : ∀ x, (x < 7 ∨ 10 < x) → ad13 x = ad10 x := fun x h => (had13 x (by omega)).trans (hadF12 x (by omega))
  have ho := (hf13 0 (by decide)).trans ho
  rw [show ad10 1 = ad13 1 from (a13 1 (by decide)).symm, show ad10 4 = ad13 4 from (a13 4 (by decide)).symm, show ad10 5 = ad13 5 from (a13 5 (by decide)).symm, show ad10 6 = ad13 6 from (a13 6 (by decide)).symm] at ho
  refine G_putF C rfl dX6_init_58 fp_6_42 ho rfl rfl (Nat.le_of_ble_eq_true rfl) (fun F14 ho hfrF14 => ?_)
  dsimp only [List.set] at ho
  refine V_aload_n C dX6_init_61 rfl ?_
  refine V_iconst (v := 0) C dX6_init_62 rfl ?_
  refine G_put C dX6_init_63 fp_6_46 ho rfl rfl (Nat.le_of_ble_eq_true rfl) (fun F15 ho hfrF15 => ?_)
  dsimp only [List.set] at ho
  have k15 : ∀ x, x ≠ 0 → F15 x = F13 x := fun x h => (hfrF15 x h).trans (hfrF14 x h)
  have hn15 : ∀ x, 11 ≤ x → x < 300 → F15 x = none := fun x h1 h2 => (k15 x (by omega)).trans ((k13 x (by omega)).trans (hn11 x (by omega) h2))
  have hT := (TxtK hT ((k15 1 (by decide)).trans (k13 1 (by decide))) ((k15 2 (by decide)).trans (k13 2 (by decide))) ((k15 3 (by decide)).trans (k13 3 (by decide)))).ad (a13 2 (by decide)) (a13 3 (by decide))
  have hma := (k15 4 (by decide)).trans ((k13 4 (by decide)).trans hma)
  have hra := (k15 5 (by decide)).trans ((k13 5 (by decide)).trans hra)
  have hla := (k15 6 (by decide)).trans ((k13 6 (by decide)).trans hla)
  have hRc : kRec (xD X) ad13 F15 (fun _ => -1) (fun _ => 0) (fun _ => 0) := kRec.kept (F := F13) ⟨hR1, hR2, hR3, hR4⟩ (k15 7 (by decide)) (k15 8 (by decide)) (k15 9 (by decide)) (k15 10 (by decide))
  have hI00 : I0 (xD X) 0 ad13 F15 := ⟨ho, hT, hma, hra, hRc, fun l hl => absurd hl (Nat.not_lt_zero l), fun r hr => absurd hr (by omega), fun x hx h3 => hn15 x (by unfold usd at hx; omega) h3, _, hla, fun l hl => absurd hl (Nat.not_lt_zero l)⟩
  have hadE : ∀ x, x = 0 ∨ 300 ≤ x → ad13 x = ad x := fun x hx => (a13 x (by omega)).trans ((hadF10 x (by omega)).trans ((hadF7 x (by omega)).trans ((hadF4 x (by omega)).trans ((had2 x (by omega)).trans (hadF1 x (by omega))))))
  have hFE : ∀ x, 300 ≤ x → F15 x = F x := fun x hx => (k15 x (by omega)).trans ((k13 x (by omega)).trans ((k11 x (by omega) (by omega)).trans ((k9 x (by omega) (by omega)).trans ((hfrF6 x (by omega)).trans ((hfrF5 x (by omega)).trans ((hfrF4 x (by omega)).trans ((hfrF3 x (by omega)).trans ((hf2 x (by omega)).trans (hfrF1 x (by omega))))))))))
  refine V_iconst (v := 0) C dX6_init_66 rfl ?_
  refine V_istore_n C dX6_init_67 (by decide) ?_
  refine V_sb (step 0 _ _ ad13 F15 (by decide) (Nat.le_of_ble_eq_true rfl) (Nat.le_of_ble_eq_true rfl) hI00 (fun adA GA hA1 hA2 hIA => ?_)) ⟨rfl, rfl, trivial⟩
  refine step 1 _ _ adA GA (by decide) (Nat.le_of_ble_eq_true rfl) (Nat.le_of_ble_eq_true rfl) hIA (fun adB GB hB1 hB2 hIB => ?_)
  refine step 2 _ _ adB GB (by decide) (Nat.le_of_ble_eq_true rfl) (Nat.le_of_ble_eq_true rfl) hIB (fun adC GC hC1 hC2 hIC => ?_)
  have ho := hIC.1
  obtain ⟨f, hla, hf⟩ := hIC.2.2.2.2.2.2.2.2
  refine V_iload_n C dX6_init_68 rfl ?_
  refine V_aload_n C dX6_init_69 rfl ?_
  refine V_get C dX6_init_70 fr_6_35 ho rfl ?_
  refine V_alen C dX6_init_73 hla rfl ?_
  refine V_icmpge_t (tgt := 96) C dX6_init_74 (by decide) (Int32.le_refl _) ?_
  exact V_return C Q dX6_init_96 (Nat.le_of_ble_eq_true rfl) (Nat.le_of_ble_eq_true rfl) ⟨rfl, fun x hx => (hC1 x hx).trans ((hB1 x hx).trans ((hA1 x hx).trans (hadE x hx))), hIC.done, fun x hx => (hC2 x hx).trans ((hB2 x hx).trans ((hA2 x hx).trans (hFE x hx)))⟩
