/-! ===== the model's constructor ===== -/
set_option maxHeartbeats 4000000 in
set_option maxRecDepth 100000 in
/-- ShortmessageModel() -/
theorem m_init {l : Launch} {D : Dx} {b0 : Nat} {ad : Nat → Nat} {F : Fn}  (ho : F 300 = some (oB 7 [.int 0, .int 0, .null, .int 0, .null, .null, .null, .null, .null, .int 0, .null, .null, .null, .null, .null, .null, .null, .null, .null, .null, .null, .null, .null, .null, .null, .int 0])) (hn : ∀ x, 301 ≤ x → F x = none) : Ct l D b0 yX7_init (wsA yX7_init cX7_init 2 none) (rC 1 21 10600) [.ref (ad 300)] ad F (fun v ad1 F1 => v = none ∧ (∀ x, x ≤ 300 → ad1 x = ad x) ∧ MRep D ad1 F1 st0S 0 ∧ ∀ x, (x < 300 ∨ 400 ≤ x) → F1 x = F x) noX := by
  refine Ct.of (by decide +kernel) (by simp [Value.category]) (Nat.le_of_ble_eq_true rfl) (fun X eD eb el C Q => ?_)
  subst eD; subst eb; subst el
  have had : ∀ x, x ≤ 300 → ad x = ad x := fun _ _ => rfl
  have hM := ho
  have hfM : ∀ x, (x < 300 ∨ 400 ≤ x) → F x = F x := fun _ _ => rfl
  refine V_aload_n C dX7_init_0 rfl ?_
  refine V_objInit C dX7_init_1 mo_7_1 mo_i mo_c (Nat.le_of_ble_eq_true rfl) (Nat.le_of_ble_eq_true rfl) rfl ?_
  refine V_aload_n C dX7_init_4 rfl ?_
  refine V_sipush (v := 400) C dX7_init_5 (by decide) ?_
  refine G_newi 302 C dX7_init_8 ar_int (hn 302 (by decide)) rfl (by decide) (Nat.le_of_ble_eq_true rfl) (Nat.le_of_ble_eq_true rfl) (fun ad1 A1 hadq h302 hfrq => ?_)
  rw [show ad 300 = ad1 300 from (hadq 300 (by decide)).symm]
  replace hM := (hfrq 300 (by decide)).trans hM
  obtain ⟨r302, ra302⟩ : ∃ r, r = ad1 302 := ⟨_, rfl⟩
  rw [← ra302]
  refine G_putF C rfl dX7_init_10 fp_7_7 hM rfl rfl (Nat.le_of_ble_eq_true rfl) (fun B1 hM hfrp => ?_)
  dsimp only [List.set] at hM
  replace h302 := (hfrp 302 (by decide)).trans h302
  replace hn : ∀ x, 303 ≤ x → B1 x = none := fun x hx => ((hfrp x (by omega)).trans (hfrq x (by omega))).trans (hn x (by omega))
  replace had : ∀ x, x ≤ 300 → ad1 x = ad x := fun x hx => (hadq x (by omega)).trans (had x hx)
  replace hfM : ∀ x, (x < 300 ∨ 400 ≤ x) → B1 x = F x := fun x hx => ((hfrp x (by omega)).trans (hfrq x (by omega))).trans (hfM x hx)
  clear hadq hfrq hfrp
  refine V_aload_n C dX7_init_13 rfl ?_
  refine V_sipush (v := 8000) C dX7_init_14 (by decide) ?_
  refine G_newi 304 C dX7_init_17 ar_int (hn 304 (by decide)) rfl (by decide) (Nat.le_of_ble_eq_true rfl) (Nat.le_of_ble_eq_true rfl) (fun ad2 A2 hadq h304 hfrq => ?_)
  rw [show ad1 300 = ad2 300 from (hadq 300 (by decide)).symm]
  replace hM := (hfrq 300 (by decide)).trans hM
  obtain ⟨r304, ra304⟩ : ∃ r, r = ad2 304 := ⟨_, rfl⟩
  rw [← ra304]
  refine G_putF C rfl dX7_init_19 fp_7_13 hM rfl rfl (Nat.le_of_ble_eq_true rfl) (fun B2 hM hfrp => ?_)
  dsimp only [List.set] at hM
  replace h304 := (hfrp 304 (by decide)).trans h304
  replace hn : ∀ x, 305 ≤ x → B2 x = none := fun x hx => ((hfrp x (by omega)).trans (hfrq x (by omega))).trans (hn x (by omega))
  replace had : ∀ x, x ≤ 300 → ad2 x = ad x := fun x hx => (hadq x (by omega)).trans (had x hx)
  replace hfM : ∀ x, (x < 300 ∨ 400 ≤ x) → B2 x = F x := fun x hx => ((hfrp x (by omega)).trans (hfrq x (by omega))).trans (hfM x hx)
  replace h302 := ((hfrp 302 (by decide)).trans (hfrq 302 (by decide))).trans h302
  replace ra302 := ra302.trans (hadq 302 (by decide)).symm
  clear hadq hfrq hfrp
  refine V_aload_n C dX7_init_22 rfl ?_
  refine V_bipush (v := 20) C dX7_init_23 (by decide) ?_
  refine G_newi 305 C dX7_init_25 ar_int (hn 305 (by decide)) rfl (by decide) (Nat.le_of_ble_eq_true rfl) (Nat.le_of_ble_eq_true rfl) (fun ad3 A3 hadq h305 hfrq => ?_)
  rw [show ad2 300 = ad3 300 from (hadq 300 (by decide)).symm]
  replace hM := (hfrq 300 (by decide)).trans hM
  obtain ⟨r305, ra305⟩ : ∃ r, r = ad3 305 := ⟨_, rfl⟩
  rw [← ra305]
  refine G_putF C rfl dX7_init_27 fp_7_16 hM rfl rfl (Nat.le_of_ble_eq_true rfl) (fun B3 hM hfrp => ?_)
  dsimp only [List.set] at hM
  replace h305 := (hfrp 305 (by decide)).trans h305
  replace hn : ∀ x, 306 ≤ x → B3 x = none := fun x hx => ((hfrp x (by omega)).trans (hfrq x (by omega))).trans (hn x (by omega))
  replace had : ∀ x, x ≤ 300 → ad3 x = ad x := fun x hx => (hadq x (by omega)).trans (had x hx)
  replace hfM : ∀ x, (x < 300 ∨ 400 ≤ x) → B3 x = F x := fun x hx => ((hfrp x (by omega)).trans (hfrq x (by omega))).trans (hfM x hx)
  replace h302 := ((hfrp 302 (by decide)).trans (hfrq 302 (by decide))).trans h302
  replace ra302 := ra302.trans (hadq 302 (by decide)).symm
  replace h304 := ((hfrp 304 (by decide)).trans (hfrq 304 (by decide))).trans h304
  replace ra304 := ra304.trans (hadq 304 (by decide)).symm
  clear hadq hfrq hfrp
  refine V_aload_n C dX7_init_30 rfl ?_
  refine V_bipush (v := 20) C dX7_init_31 (by decide) ?_
  refine G_newi 306 C dX7_init_33 ar_int (hn 306 (by decide)) rfl (by decide) (Nat.le_of_ble_eq_true rfl) (Nat.le_of_ble_eq_true rfl) (fun ad4 A4 hadq h306 hfrq => ?_)
  rw [show ad3 300 = ad4 300 from (hadq 300 (by decide)).symm]
  replace hM := (hfrq 300 (by decide)).trans hM
  obtain ⟨r306, ra306⟩ : ∃ r, r = ad4 306 := ⟨_, rfl⟩
  rw [← ra306]
  refine G_putF C rfl dX7_init_35 fp_7_19 hM rfl rfl (Nat.le_of_ble_eq_true rfl) (fun B4 hM hfrp => ?_)
  dsimp only [List.set] at hM
  replace h306 := (hfrp 306 (by decide)).trans h306
  replace hn : ∀ x, 307 ≤ x → B4 x = none := fun x hx => ((hfrp x (by omega)).trans (hfrq x (by omega))).trans (hn x (by omega))
  replace had : ∀ x, x ≤ 300 → ad4 x = ad x := fun x hx => (hadq x (by omega)).trans (had x hx)
  replace hfM : ∀ x, (x < 300 ∨ 400 ≤ x) → B4 x = F x := fun x hx => ((hfrp x (by omega)).trans (hfrq x (by omega))).trans (hfM x hx)
  replace h302 := ((hfrp 302 (by decide)).trans (hfrq 302 (by decide))).trans h302
  replace ra302 := ra302.trans (hadq 302 (by decide)).symm
  replace h304 := ((hfrp 304 (by decide)).trans (hfrq 304 (by decide))).trans h304
  replace ra304 := ra304.trans (hadq 304 (by decide)).symm
  replace h305 := ((hfrp 305 (by decide)).trans (hfrq 305 (by decide))).trans h305
  replace ra305 := ra305.trans (hadq 305 (by decide)).symm
  clear hadq hfrq hfrp
  refine V_aload_n C dX7_init_38 rfl ?_
  refine V_bipush (v := 20) C dX7_init_39 (by decide) ?_
  refine G_newi 307 C dX7_init_41 ar_int (hn 307 (by decide)) rfl (by decide) (Nat.le_of_ble_eq_true rfl) (Nat.le_of_ble_eq_true rfl) (fun ad5 A5 hadq h307 hfrq => ?_)
  rw [show ad4 300 = ad5 300 from (hadq 300 (by decide)).symm]
  replace hM := (hfrq 300 (by decide)).trans hM
  obtain ⟨r307, ra307⟩ : ∃ r, r = ad5 307 := ⟨_, rfl⟩
  rw [← ra307]
  refine G_putF C rfl dX7_init_43 fp_7_22 hM rfl rfl (Nat.le_of_ble_eq_true rfl) (fun B5 hM hfrp => ?_)
  dsimp only [List.set] at hM
  replace h307 := (hfrp 307 (by decide)).trans h307
  replace hn : ∀ x, 308 ≤ x → B5 x = none := fun x hx => ((hfrp x (by omega)).trans (hfrq x (by omega))).trans (hn x (by omega))
  replace had : ∀ x, x ≤ 300 → ad5 x = ad x := fun x hx => (hadq x (by omega)).trans (had x hx)
  replace hfM : ∀ x, (x < 300 ∨ 400 ≤ x) → B5 x = F x := fun x hx => ((hfrp x (by omega)).trans (hfrq x (by omega))).trans (hfM x hx)
  replace h302 := ((hfrp 302 (by decide)).trans (hfrq 302 (by decide))).trans h302
  replace ra302 := ra302.trans (hadq 302 (by decide)).symm
  replace h304 := ((hfrp 304 (by decide)).trans (hfrq 304 (by decide))).trans h304
  replace ra304 := ra304.trans (hadq 304 (by decide)).symm
  replace h305 := ((hfrp 305 (by decide)).trans (hfrq 305 (by decide))).trans h305
  replace ra305 := ra305.trans (hadq 305 (by decide)).symm
  replace h306 := ((hfrp 306 (by decide)).trans (hfrq 306 (by decide))).trans h306
  replace ra306 := ra306.trans (hadq 306 (by decide)).symm
  clear hadq hfrq hfrp
  refine V_aload_n C dX7_init_46 rfl ?_
  refine V_bipush (v := 20) C dX7_init_47 (by decide) ?_
  refine G_newi 308 C dX7_init_49 ar_int (hn 308 (by decide)) rfl (by decide) (Nat.le_of_ble_eq_true rfl) (Nat.le_of_ble_eq_true rfl) (fun ad6 A6 hadq h308 hfrq => ?_)
  rw [show ad5 300 = ad6 300 from (hadq 300 (by decide)).symm]
  replace hM := (hfrq 300 (by decide)).trans hM
  obtain ⟨r308, ra308⟩ : ∃ r, r = ad6 308 := ⟨_, rfl⟩
  rw [← ra308]
  refine G_putF C rfl dX7_init_51 fp_7_25 hM rfl rfl (Nat.le_of_ble_eq_true rfl) (fun B6 hM hfrp => ?_)
  dsimp only [List.set] at hM
  replace h308 := (hfrp 308 (by decide)).trans h308
  replace hn : ∀ x, 309 ≤ x → B6 x = none := fun x hx => ((hfrp x (by omega)).trans (hfrq x (by omega))).trans (hn x (by omega))
  replace had : ∀ x, x ≤ 300 → ad6 x = ad x := fun x hx => (hadq x (by omega)).trans (had x hx)
  replace hfM : ∀ x, (x < 300 ∨ 400 ≤ x) → B6 x = F x := fun x hx => ((hfrp x (by omega)).trans (hfrq x (by omega))).trans (hfM x hx)
  replace h302 := ((hfrp 302 (by decide)).trans (hfrq 302 (by decide))).trans h302
  replace ra302 := ra302.trans (hadq 302 (by decide)).symm
  replace h304 := ((hfrp 304 (by decide)).trans (hfrq 304 (by decide))).trans h304
  replace ra304 := ra304.trans (hadq 304 (by decide)).symm
  replace h305 := ((hfrp 305 (by decide)).trans (hfrq 305 (by decide))).trans h305
  replace ra305 := ra305.trans (hadq 305 (by decide)).symm
  replace h306 := ((hfrp 306 (by decide)).trans (hfrq 306 (by decide))).trans h306
  replace ra306 := ra306.trans (hadq 306 (by decide)).symm
  replace h307 := ((hfrp 307 (by decide)).trans (hfrq 307 (by decide))).trans h307
  replace ra307 := ra307.trans (hadq 307 (by decide)).symm
  clear hadq hfrq hfrp
  refine V_aload_n C dX7_init_54 rfl ?_
  refine V_bipush (v := 20) C dX7_init_55 (by decide) ?_
  refine G_newi 310 C dX7_init_57 ar_int (hn 310 (by decide)) rfl (by decide) (Nat.le_of_ble_eq_true rfl) (Nat.le_of_ble_eq_true rfl) (fun ad7 A7 hadq h310 hfrq => ?_)
  rw [show ad6 300 = ad7 300 from (hadq 300 (by decide)).symm]
  replace hM := (hfrq 300 (by decide)).trans hM
  obtain ⟨r310, ra310⟩ : ∃ r, r = ad7 310 := ⟨_, rfl⟩
  rw [← ra310]
  refine G_putF C rfl dX7_init_59 fp_7_28 hM rfl rfl (Nat.le_of_ble_eq_true rfl) (fun B7 hM hfrp => ?_)
  dsimp only [List.set] at hM
  replace h310 := (hfrp 310 (by decide)).trans h310
  replace hn : ∀ x, 311 ≤ x → B7 x = none := fun x hx => ((hfrp x (by omega)).trans (hfrq x (by omega))).trans (hn x (by omega))
  replace had : ∀ x, x ≤ 300 → ad7 x = ad x := fun x hx => (hadq x (by omega)).trans (had x hx)
  replace hfM : ∀ x, (x < 300 ∨ 400 ≤ x) → B7 x = F x := fun x hx => ((hfrp x (by omega)).trans (hfrq x (by omega))).trans (hfM x hx)
  replace h302 := ((hfrp 302 (by decide)).trans (hfrq 302 (by decide))).trans h302
  replace ra302 := ra302.trans (hadq 302 (by decide)).symm
  replace h304 := ((hfrp 304 (by decide)).trans (hfrq 304 (by decide))).trans h304
  replace ra304 := ra304.trans (hadq 304 (by decide)).symm
  replace h305 := ((hfrp 305 (by decide)).trans (hfrq 305 (by decide))).trans h305
  replace ra305 := ra305.trans (hadq 305 (by decide)).symm
  replace h306 := ((hfrp 306 (by decide)).trans (hfrq 306 (by decide))).trans h306
  replace ra306 := ra306.trans (hadq 306 (by decide)).symm
  replace h307 := ((hfrp 307 (by decide)).trans (hfrq 307 (by decide))).trans h307
  replace ra307 := ra307.trans (hadq 307 (by decide)).symm
  replace h308 := ((hfrp 308 (by decide)).trans (hfrq 308 (by decide))).trans h308
  replace ra308 := ra308.trans (hadq 308 (by decide)).symm
  clear hadq hfrq hfrp
  refine V_aload_n C dX7_init_62 rfl ?_
  refine V_sipush (v := 200) C dX7_init_63 (by decide) ?_
  refine G_newi 311 C dX7_init_66 ar_int (hn 311 (by decide)) rfl (by decide) (Nat.le_of_ble_eq_true rfl) (Nat.le_of_ble_eq_true rfl) (fun ad8 A8 hadq h311 hfrq => ?_)
  rw [show ad7 300 = ad8 300 from (hadq 300 (by decide)).symm]
  replace hM := (hfrq 300 (by decide)).trans hM
  obtain ⟨r311, ra311⟩ : ∃ r, r = ad8 311 := ⟨_, rfl⟩
  rw [← ra311]
  refine G_putF C rfl dX7_init_68 fp_7_31 hM rfl rfl (Nat.le_of_ble_eq_true rfl) (fun B8 hM hfrp => ?_)
  dsimp only [List.set] at hM
  replace h311 := (hfrp 311 (by decide)).trans h311
  replace hn : ∀ x, 312 ≤ x → B8 x = none := fun x hx => ((hfrp x (by omega)).trans (hfrq x (by omega))).trans (hn x (by omega))
  replace had : ∀ x, x ≤ 300 → ad8 x = ad x := fun x hx => (hadq x (by omega)).trans (had x hx)
  replace hfM : ∀ x, (x < 300 ∨ 400 ≤ x) → B8 x = F x := fun x hx => ((hfrp x (by omega)).trans (hfrq x (by omega))).trans (hfM x hx)
  replace h302 := ((hfrp 302 (by decide)).trans (hfrq 302 (by decide))).trans h302
  replace ra302 := ra302.trans (hadq 302 (by decide)).symm
  replace h304 := ((hfrp 304 (by decide)).trans (hfrq 304 (by decide))).trans h304
  replace ra304 := ra304.trans (hadq 304 (by decide)).symm
  replace h305 := ((hfrp 305 (by decide)).trans (hfrq 305 (by decide))).trans h305
  replace ra305 := ra305.trans (hadq 305 (by decide)).symm
  replace h306 := ((hfrp 306 (by decide)).trans (hfrq 306 (by decide))).trans h306
  replace ra306 := ra306.trans (hadq 306 (by decide)).symm
  replace h307 := ((hfrp 307 (by decide)).trans (hfrq 307 (by decide))).trans h307
  replace ra307 := ra307.trans (hadq 307 (by decide)).symm
  replace h308 := ((hfrp 308 (by decide)).trans (hfrq 308 (by decide))).trans h308
  replace ra308 := ra308.trans (hadq 308 (by decide)).symm
  replace h310 := ((hfrp 310 (by decide)).trans (hfrq 310 (by decide))).trans h310
  replace ra310 := ra310.trans (hadq 310 (by decide)).symm
  clear hadq hfrq hfrp
  refine V_aload_n C dX7_init_71 rfl ?_
  refine V_sipush (v := 200) C dX7_init_72 (by decide) ?_
  refine G_newi 312 C dX7_init_75 ar_int (hn 312 (by decide)) rfl (by decide) (Nat.le_of_ble_eq_true rfl) (Nat.le_of_ble_eq_true rfl) (fun ad9 A9 hadq h312 hfrq => ?_)
  rw [show ad8 300 = ad9 300 from (hadq 300 (by decide)).symm]
  replace hM := (hfrq 300 (by decide)).trans hM
  obtain ⟨r312, ra312⟩ : ∃ r, r = ad9 312 := ⟨_, rfl⟩
  rw [← ra312]
  refine G_putF C rfl dX7_init_77 fp_7_34 hM rfl rfl (Nat.le_of_ble_eq_true rfl) (fun B9 hM hfrp => ?_)
  dsimp only [List.set] at hM
  replace h312 := (hfrp 312 (by decide)).trans h312
  replace hn : ∀ x, 313 ≤ x → B9 x = none := fun x hx => ((hfrp x (by omega)).trans (hfrq x (by omega))).trans (hn x (by omega))
  replace had : ∀ x, x ≤ 300 → ad9 x = ad x := fun x hx => (hadq x (by omega)).trans (had x hx)
  replace hfM : ∀ x, (x < 300 ∨ 400 ≤ x) → B9 x = F x := fun x hx => ((hfrp x (by omega)).trans (hfrq x (by omega))).trans (hfM x hx)
  replace h302 := ((hfrp 302 (by decide)).trans (hfrq 302 (by decide))).trans h302
  replace ra302 := ra302.trans (hadq 302 (by decide)).symm
  replace h304 := ((hfrp 304 (by decide)).trans (hfrq 304 (by decide))).trans h304
  replace ra304 := ra304.trans (hadq 304 (by decide)).symm
  replace h305 := ((hfrp 305 (by decide)).trans (hfrq 305 (by decide))).trans h305
  replace ra305 := ra305.trans (hadq 305 (by decide)).symm
  replace h306 := ((hfrp 306 (by decide)).trans (hfrq 306 (by decide))).trans h306
  replace ra306 := ra306.trans (hadq 306 (by decide)).symm
  replace h307 := ((hfrp 307 (by decide)).trans (hfrq 307 (by decide))).trans h307
  replace ra307 := ra307.trans (hadq 307 (by decide)).symm
  replace h308 := ((hfrp 308 (by decide)).trans (hfrq 308 (by decide))).trans h308
  replace ra308 := ra308.trans (hadq 308 (by decide)).symm
  replace h310 := ((hfrp 310 (by decide)).trans (hfrq 310 (by decide))).trans h310
  replace ra310 := ra310.trans (hadq 310 (by decide)).symm
  replace h311 := ((hfrp 311 (by decide)).trans (hfrq 311 (by decide))).trans h311
  replace ra311 := ra311.trans (hadq 311 (by decide)).symm
  clear hadq hfrq hfrp
  refine V_aload_n C dX7_init_80 rfl ?_
  refine V_sipush (v := 200) C dX7_init_81 (by decide) ?_
  refine G_newz 313 C dX7_init_84 ar_boolean (hn 313 (by decide)) rfl (by decide) (Nat.le_of_ble_eq_true rfl) (Nat.le_of_ble_eq_true rfl) (fun ad10 A10 hadq h313 hfrq => ?_)
  rw [show ad9 300 = ad10 300 from (hadq 300 (by decide)).symm]
  replace hM := (hfrq 300 (by decide)).trans hM
  obtain ⟨r313, ra313⟩ : ∃ r, r = ad10 313 := ⟨_, rfl⟩
  rw [← ra313]
  refine G_putF C rfl dX7_init_86 fp_7_37 hM rfl rfl (Nat.le_of_ble_eq_true rfl) (fun B10 hM hfrp => ?_)
  dsimp only [List.set] at hM
  replace h313 := (hfrp 313 (by decide)).trans h313
  replace hn : ∀ x, 314 ≤ x → B10 x = none := fun x hx => ((hfrp x (by omega)).trans (hfrq x (by omega))).trans (hn x (by omega))
  replace had : ∀ x, x ≤ 300 → ad10 x = ad x := fun x hx => (hadq x (by omega)).trans (had x hx)
  replace hfM : ∀ x, (x < 300 ∨ 400 ≤ x) → B10 x = F x := fun x hx => ((hfrp x (by omega)).trans (hfrq x (by omega))).trans (hfM x hx)
  replace h302 := ((hfrp 302 (by decide)).trans (hfrq 302 (by decide))).trans h302
  replace ra302 := ra302.trans (hadq 302 (by decide)).symm
  replace h304 := ((hfrp 304 (by decide)).trans (hfrq 304 (by decide))).trans h304
  replace ra304 := ra304.trans (hadq 304 (by decide)).symm
  replace h305 := ((hfrp 305 (by decide)).trans (hfrq 305 (by decide))).trans h305
  replace ra305 := ra305.trans (hadq 305 (by decide)).symm
  replace h306 := ((hfrp 306 (by decide)).trans (hfrq 306 (by decide))).trans h306
  replace ra306 := ra306.trans (hadq 306 (by decide)).symm
  replace h307 := ((hfrp 307 (by decide)).trans (hfrq 307 (by decide))).trans h307
  replace ra307 := ra307.trans (hadq 307 (by decide)).symm
  replace h308 := ((hfrp 308 (by decide)).trans (hfrq 308 (by decide))).trans h308
  replace ra308 := ra308.trans (hadq 308 (by decide)).symm
  replace h310 := ((hfrp 310 (by decide)).trans (hfrq 310 (by decide))).trans h310
  replace ra310 := ra310.trans (hadq 310 (by decide)).symm
  replace h311 := ((hfrp 311 (by decide)).trans (hfrq 311 (by decide))).trans h311
  replace ra311 := ra311.trans (hadq 311 (by decide)).symm
  replace h312 := ((hfrp 312 (by decide)).trans (hfrq 312 (by decide))).trans h312
  replace ra312 := ra312.trans (hadq 312 (by decide)).symm
  clear hadq hfrq hfrp
  refine V_aload_n C dX7_init_89 rfl ?_
  refine V_sipush (v := 200) C dX7_init_90 (by decide) ?_
  refine G_newz 314 C dX7_init_93 ar_boolean (hn 314 (by decide)) rfl (by decide) (Nat.le_of_ble_eq_true rfl) (Nat.le_of_ble_eq_true rfl) (fun ad11 A11 hadq h314 hfrq => ?_)
  rw [show ad10 300 = ad11 300 from (hadq 300 (by decide)).symm]
  replace hM := (hfrq 300 (by decide)).trans hM
  obtain ⟨r314, ra314⟩ : ∃ r, r = ad11 314 := ⟨_, rfl⟩
  rw [← ra314]
  refine G_putF C rfl dX7_init_95 fp_7_41 hM rfl rfl (Nat.le_of_ble_eq_true rfl) (fun B11 hM hfrp => ?_)
  dsimp only [List.set] at hM
  replace h314 := (hfrp 314 (by decide)).trans h314
  replace hn : ∀ x, 315 ≤ x → B11 x = none := fun x hx => ((hfrp x (by omega)).trans (hfrq x (by omega))).trans (hn x (by omega))
  replace had : ∀ x, x ≤ 300 → ad11 x = ad x := fun x hx => (hadq x (by omega)).trans (had x hx)
  replace hfM : ∀ x, (x < 300 ∨ 400 ≤ x) → B11 x = F x := fun x hx => ((hfrp x (by omega)).trans (hfrq x (by omega))).trans (hfM x hx)
  replace h302 := ((hfrp 302 (by decide)).trans (hfrq 302 (by decide))).trans h302
  replace ra302 := ra302.trans (hadq 302 (by decide)).symm
  replace h304 := ((hfrp 304 (by decide)).trans (hfrq 304 (by decide))).trans h304
  replace ra304 := ra304.trans (hadq 304 (by decide)).symm
  replace h305 := ((hfrp 305 (by decide)).trans (hfrq 305 (by decide))).trans h305
  replace ra305 := ra305.trans (hadq 305 (by decide)).symm
  replace h306 := ((hfrp 306 (by decide)).trans (hfrq 306 (by decide))).trans h306
  replace ra306 := ra306.trans (hadq 306 (by decide)).symm
  replace h307 := ((hfrp 307 (by decide)).trans (hfrq 307 (by decide))).trans h307
  replace ra307 := ra307.trans (hadq 307 (by decide)).symm
  replace h308 := ((hfrp 308 (by decide)).trans (hfrq 308 (by decide))).trans h308
  replace ra308 := ra308.trans (hadq 308 (by decide)).symm
  replace h310 := ((hfrp 310 (by decide)).trans (hfrq 310 (by decide))).trans h310
  replace ra310 := ra310.trans (hadq 310 (by decide)).symm
  replace h311 := ((hfrp 311 (by decide)).trans (hfrq 311 (by decide))).trans h311
  replace ra311 := ra311.trans (hadq 311 (by decide)).symm
  replace h312 := ((hfrp 312 (by decide)).trans (hfrq 312 (by decide))).trans h312
  replace ra312 := ra312.trans (hadq 312 (by decide)).symm
  replace h313 := ((hfrp 313 (by decide)).trans (hfrq 313 (by decide))).trans h313
  replace ra313 := ra313.trans (hadq 313 (by decide)).symm
  clear hadq hfrq hfrp
  refine V_aload_n C dX7_init_98 rfl ?_
  refine V_iconst (v := 3) C dX7_init_99 rfl ?_
  refine G_newi 315 C dX7_init_100 ar_int (hn 315 (by decide)) rfl (by decide) (Nat.le_of_ble_eq_true rfl) (Nat.le_of_ble_eq_true rfl) (fun ad12 A12 hadq h315 hfrq => ?_)
  rw [show ad11 300 = ad12 300 from (hadq 300 (by decide)).symm]
  replace hM := (hfrq 300 (by decide)).trans hM
  obtain ⟨r315, ra315⟩ : ∃ r, r = ad12 315 := ⟨_, rfl⟩
  rw [← ra315]
  refine G_putF C rfl dX7_init_102 fp_7_44 hM rfl rfl (Nat.le_of_ble_eq_true rfl) (fun B12 hM hfrp => ?_)
  dsimp only [List.set] at hM
  replace h315 := (hfrp 315 (by decide)).trans h315
  replace hn : ∀ x, 316 ≤ x → B12 x = none := fun x hx => ((hfrp x (by omega)).trans (hfrq x (by omega))).trans (hn x (by omega))
  replace had : ∀ x, x ≤ 300 → ad12 x = ad x := fun x hx => (hadq x (by omega)).trans (had x hx)
  replace hfM : ∀ x, (x < 300 ∨ 400 ≤ x) → B12 x = F x := fun x hx => ((hfrp x (by omega)).trans (hfrq x (by omega))).trans (hfM x hx)
  replace h302 := ((hfrp 302 (by decide)).trans (hfrq 302 (by decide))).trans h302
  replace ra302 := ra302.trans (hadq 302 (by decide)).symm
  replace h304 := ((hfrp 304 (by decide)).trans (hfrq 304 (by decide))).trans h304
  replace ra304 := ra304.trans (hadq 304 (by decide)).symm
  replace h305 := ((hfrp 305 (by decide)).trans (hfrq 305 (by decide))).trans h305
  replace ra305 := ra305.trans (hadq 305 (by decide)).symm
  replace h306 := ((hfrp 306 (by decide)).trans (hfrq 306 (by decide))).trans h306
  replace ra306 := ra306.trans (hadq 306 (by decide)).symm
  replace h307 := ((hfrp 307 (by decide)).trans (hfrq 307 (by decide))).trans h307
  replace ra307 := ra307.trans (hadq 307 (by decide)).symm
  replace h308 := ((hfrp 308 (by decide)).trans (hfrq 308 (by decide))).trans h308
  replace ra308 := ra308.trans (hadq 308 (by decide)).symm
  replace h310 := ((hfrp 310 (by decide)).trans (hfrq 310 (by decide))).trans h310
  replace ra310 := ra310.trans (hadq 310 (by decide)).symm
  replace h311 := ((hfrp 311 (by decide)).trans (hfrq 311 (by decide))).trans h311
  replace ra311 := ra311.trans (hadq 311 (by decide)).symm
  replace h312 := ((hfrp 312 (by decide)).trans (hfrq 312 (by decide))).trans h312
  replace ra312 := ra312.trans (hadq 312 (by decide)).symm
  replace h313 := ((hfrp 313 (by decide)).trans (hfrq 313 (by decide))).trans h313
  replace ra313 := ra313.trans (hadq 313 (by decide)).symm
  replace h314 := ((hfrp 314 (by decide)).trans (hfrq 314 (by decide))).trans h314
  replace ra314 := ra314.trans (hadq 314 (by decide)).symm
  clear hadq hfrq hfrp
  refine V_aload_n C dX7_init_105 rfl ?_
  refine V_sipush (v := 600) C dX7_init_106 (by decide) ?_
  refine G_newi 316 C dX7_init_109 ar_int (hn 316 (by decide)) rfl (by decide) (Nat.le_of_ble_eq_true rfl) (Nat.le_of_ble_eq_true rfl) (fun ad13 A13 hadq h316 hfrq => ?_)
  rw [show ad12 300 = ad13 300 from (hadq 300 (by decide)).symm]
  replace hM := (hfrq 300 (by decide)).trans hM
  obtain ⟨r316, ra316⟩ : ∃ r, r = ad13 316 := ⟨_, rfl⟩
  rw [← ra316]
  refine G_putF C rfl dX7_init_111 fp_7_47 hM rfl rfl (Nat.le_of_ble_eq_true rfl) (fun B13 hM hfrp => ?_)
  dsimp only [List.set] at hM
  replace h316 := (hfrp 316 (by decide)).trans h316
  replace hn : ∀ x, 317 ≤ x → B13 x = none := fun x hx => ((hfrp x (by omega)).trans (hfrq x (by omega))).trans (hn x (by omega))
  replace had : ∀ x, x ≤ 300 → ad13 x = ad x := fun x hx => (hadq x (by omega)).trans (had x hx)
  replace hfM : ∀ x, (x < 300 ∨ 400 ≤ x) → B13 x = F x := fun x hx => ((hfrp x (by omega)).trans (hfrq x (by omega))).trans (hfM x hx)
  replace h302 := ((hfrp 302 (by decide)).trans (hfrq 302 (by decide))).trans h302
  replace ra302 := ra302.trans (hadq 302 (by decide)).symm
  replace h304 := ((hfrp 304 (by decide)).trans (hfrq 304 (by decide))).trans h304
  replace ra304 := ra304.trans (hadq 304 (by decide)).symm
  replace h305 := ((hfrp 305 (by decide)).trans (hfrq 305 (by decide))).trans h305
  replace ra305 := ra305.trans (hadq 305 (by decide)).symm
  replace h306 := ((hfrp 306 (by decide)).trans (hfrq 306 (by decide))).trans h306
  replace ra306 := ra306.trans (hadq 306 (by decide)).symm
  replace h307 := ((hfrp 307 (by decide)).trans (hfrq 307 (by decide))).trans h307
  replace ra307 := ra307.trans (hadq 307 (by decide)).symm
  replace h308 := ((hfrp 308 (by decide)).trans (hfrq 308 (by decide))).trans h308
  replace ra308 := ra308.trans (hadq 308 (by decide)).symm
  replace h310 := ((hfrp 310 (by decide)).trans (hfrq 310 (by decide))).trans h310
  replace ra310 := ra310.trans (hadq 310 (by decide)).symm
  replace h311 := ((hfrp 311 (by decide)).trans (hfrq 311 (by decide))).trans h311
  replace ra311 := ra311.trans (hadq 311 (by decide)).symm
  replace h312 := ((hfrp 312 (by decide)).trans (hfrq 312 (by decide))).trans h312
  replace ra312 := ra312.trans (hadq 312 (by decide)).symm
  replace h313 := ((hfrp 313 (by decide)).trans (hfrq 313 (by decide))).trans h313
  replace ra313 := ra313.trans (hadq 313 (by decide)).symm
  replace h314 := ((hfrp 314 (by decide)).trans (hfrq 314 (by decide))).trans h314
  replace ra314 := ra314.trans (hadq 314 (by decide)).symm
  replace h315 := ((hfrp 315 (by decide)).trans (hfrq 315 (by decide))).trans h315
  replace ra315 := ra315.trans (hadq 315 (by decide)).symm
  clear hadq hfrq hfrp
  refine V_aload_n C dX7_init_114 rfl ?_
  refine V_iconst (v := 3) C dX7_init_115 rfl ?_
  refine G_newi 317 C dX7_init_116 ar_int (hn 317 (by decide)) rfl (by decide) (Nat.le_of_ble_eq_true rfl) (Nat.le_of_ble_eq_true rfl) (fun ad14 A14 hadq h317 hfrq => ?_)
  rw [show ad13 300 = ad14 300 from (hadq 300 (by decide)).symm]
  replace hM := (hfrq 300 (by decide)).trans hM
  obtain ⟨r317, ra317⟩ : ∃ r, r = ad14 317 := ⟨_, rfl⟩
  rw [← ra317]
  refine G_putF C rfl dX7_init_118 fp_7_50 hM rfl rfl (Nat.le_of_ble_eq_true rfl) (fun B14 hM hfrp => ?_)
  dsimp only [List.set] at hM
  replace h317 := (hfrp 317 (by decide)).trans h317
  replace hn : ∀ x, 318 ≤ x → B14 x = none := fun x hx => ((hfrp x (by omega)).trans (hfrq x (by omega))).trans (hn x (by omega))
  replace had : ∀ x, x ≤ 300 → ad14 x = ad x := fun x hx => (hadq x (by omega)).trans (had x hx)
  replace hfM : ∀ x, (x < 300 ∨ 400 ≤ x) → B14 x = F x := fun x hx => ((hfrp x (by omega)).trans (hfrq x (by omega))).trans (hfM x hx)
  replace h302 := ((hfrp 302 (by decide)).trans (hfrq 302 (by decide))).trans h302
  replace ra302 := ra302.trans (hadq 302 (by decide)).symm
  replace h304 := ((hfrp 304 (by decide)).trans (hfrq 304 (by decide))).trans h304
  replace ra304 := ra304.trans (hadq 304 (by decide)).symm
  replace h305 := ((hfrp 305 (by decide)).trans (hfrq 305 (by decide))).trans h305
  replace ra305 := ra305.trans (hadq 305 (by decide)).symm
  replace h306 := ((hfrp 306 (by decide)).trans (hfrq 306 (by decide))).trans h306
  replace ra306 := ra306.trans (hadq 306 (by decide)).symm
  replace h307 := ((hfrp 307 (by decide)).trans (hfrq 307 (by decide))).trans h307
  replace ra307 := ra307.trans (hadq 307 (by decide)).symm
  replace h308 := ((hfrp 308 (by decide)).trans (hfrq 308 (by decide))).trans h308
  replace ra308 := ra308.trans (hadq 308 (by decide)).symm
  replace h310 := ((hfrp 310 (by decide)).trans (hfrq 310 (by decide))).trans h310
  replace ra310 := ra310.trans (hadq 310 (by decide)).symm
  replace h311 := ((hfrp 311 (by decide)).trans (hfrq 311 (by decide))).trans h311
  replace ra311 := ra311.trans (hadq 311 (by decide)).symm
  replace h312 := ((hfrp 312 (by decide)).trans (hfrq 312 (by decide))).trans h312
  replace ra312 := ra312.trans (hadq 312 (by decide)).symm
  replace h313 := ((hfrp 313 (by decide)).trans (hfrq 313 (by decide))).trans h313
  replace ra313 := ra313.trans (hadq 313 (by decide)).symm
  replace h314 := ((hfrp 314 (by decide)).trans (hfrq 314 (by decide))).trans h314
  replace ra314 := ra314.trans (hadq 314 (by decide)).symm
  replace h315 := ((hfrp 315 (by decide)).trans (hfrq 315 (by decide))).trans h315
  replace ra315 := ra315.trans (hadq 315 (by decide)).symm
  replace h316 := ((hfrp 316 (by decide)).trans (hfrq 316 (by decide))).trans h316
  replace ra316 := ra316.trans (hadq 316 (by decide)).symm
  clear hadq hfrq hfrp
  refine V_aload_n C dX7_init_121 rfl ?_
  refine V_sipush (v := 600) C dX7_init_122 (by decide) ?_
  refine G_newi 318 C dX7_init_125 ar_int (hn 318 (by decide)) rfl (by decide) (Nat.le_of_ble_eq_true rfl) (Nat.le_of_ble_eq_true rfl) (fun ad15 A15 hadq h318 hfrq => ?_)
  rw [show ad14 300 = ad15 300 from (hadq 300 (by decide)).symm]
  replace hM := (hfrq 300 (by decide)).trans hM
  obtain ⟨r318, ra318⟩ : ∃ r, r = ad15 318 := ⟨_, rfl⟩
  rw [← ra318]
  refine G_putF C rfl dX7_init_127 fp_7_53 hM rfl rfl (Nat.le_of_ble_eq_true rfl) (fun B15 hM hfrp => ?_)
  dsimp only [List.set] at hM
  replace h318 := (hfrp 318 (by decide)).trans h318
  replace hn : ∀ x, 319 ≤ x → B15 x = none := fun x hx => ((hfrp x (by omega)).trans (hfrq x (by omega))).trans (hn x (by omega))
  replace had : ∀ x, x ≤ 300 → ad15 x = ad x := fun x hx => (hadq x (by omega)).trans (had x hx)
  replace hfM : ∀ x, (x < 300 ∨ 400 ≤ x) → B15 x = F x := fun x hx => ((hfrp x (by omega)).trans (hfrq x (by omega))).trans (hfM x hx)
  replace h302 := ((hfrp 302 (by decide)).trans (hfrq 302 (by decide))).trans h302
  replace ra302 := ra302.trans (hadq 302 (by decide)).symm
  replace h304 := ((hfrp 304 (by decide)).trans (hfrq 304 (by decide))).trans h304
  replace ra304 := ra304.trans (hadq 304 (by decide)).symm
  replace h305 := ((hfrp 305 (by decide)).trans (hfrq 305 (by decide))).trans h305
  replace ra305 := ra305.trans (hadq 305 (by decide)).symm
  replace h306 := ((hfrp 306 (by decide)).trans (hfrq 306 (by decide))).trans h306
  replace ra306 := ra306.trans (hadq 306 (by decide)).symm
  replace h307 := ((hfrp 307 (by decide)).trans (hfrq 307 (by decide))).trans h307
  replace ra307 := ra307.trans (hadq 307 (by decide)).symm
  replace h308 := ((hfrp 308 (by decide)).trans (hfrq 308 (by decide))).trans h308
  replace ra308 := ra308.trans (hadq 308 (by decide)).symm
  replace h310 := ((hfrp 310 (by decide)).trans (hfrq 310 (by decide))).trans h310
  replace ra310 := ra310.trans (hadq 310 (by decide)).symm
  replace h311 := ((hfrp 311 (by decide)).trans (hfrq 311 (by decide))).trans h311
  replace ra311 := ra311.trans (hadq 311 (by decide)).symm
  replace h312 := ((hfrp 312 (by decide)).trans (hfrq 312 (by decide))).trans h312
  replace ra312 := ra312.trans (hadq 312 (by decide)).symm
  replace h313 := ((hfrp 313 (by decide)).trans (hfrq 313 (by decide))).trans h313
  replace ra313 := ra313.trans (hadq 313 (by decide)).symm
  replace h314 := ((hfrp 314 (by decide)).trans (hfrq 314 (by decide))).trans h314
  replace ra314 := ra314.trans (hadq 314 (by decide)).symm
  replace h315 := ((hfrp 315 (by decide)).trans (hfrq 315 (by decide))).trans h315
  replace ra315 := ra315.trans (hadq 315 (by decide)).symm
  replace h316 := ((hfrp 316 (by decide)).trans (hfrq 316 (by decide))).trans h316
  replace ra316 := ra316.trans (hadq 316 (by decide)).symm
  replace h317 := ((hfrp 317 (by decide)).trans (hfrq 317 (by decide))).trans h317
  replace ra317 := ra317.trans (hadq 317 (by decide)).symm
  clear hadq hfrq hfrp
  refine V_aload_n C dX7_init_130 rfl ?_
  refine V_iconst (v := 3) C dX7_init_131 rfl ?_
  refine G_newz 319 C dX7_init_132 ar_boolean (hn 319 (by decide)) rfl (by decide) (Nat.le_of_ble_eq_true rfl) (Nat.le_of_ble_eq_true rfl) (fun ad16 A16 hadq h319 hfrq => ?_)
  rw [show ad15 300 = ad16 300 from (hadq 300 (by decide)).symm]
  replace hM := (hfrq 300 (by decide)).trans hM
  obtain ⟨r319, ra319⟩ : ∃ r, r = ad16 319 := ⟨_, rfl⟩
  rw [← ra319]
  refine G_putF C rfl dX7_init_134 fp_7_56 hM rfl rfl (Nat.le_of_ble_eq_true rfl) (fun B16 hM hfrp => ?_)
  dsimp only [List.set] at hM
  replace h319 := (hfrp 319 (by decide)).trans h319
  replace hn : ∀ x, 320 ≤ x → B16 x = none := fun x hx => ((hfrp x (by omega)).trans (hfrq x (by omega))).trans (hn x (by omega))
  replace had : ∀ x, x ≤ 300 → ad16 x = ad x := fun x hx => (hadq x (by omega)).trans (had x hx)
  replace hfM : ∀ x, (x < 300 ∨ 400 ≤ x) → B16 x = F x := fun x hx => ((hfrp x (by omega)).trans (hfrq x (by omega))).trans (hfM x hx)
  replace h302 := ((hfrp 302 (by decide)).trans (hfrq 302 (by decide))).trans h302
  replace ra302 := ra302.trans (hadq 302 (by decide)).symm
  replace h304 := ((hfrp 304 (by decide)).trans (hfrq 304 (by decide))).trans h304
  replace ra304 := ra304.trans (hadq 304 (by decide)).symm
  replace h305 := ((hfrp 305 (by decide)).trans (hfrq 305 (by decide))).trans h305
  replace ra305 := ra305.trans (hadq 305 (by decide)).symm
  replace h306 := ((hfrp 306 (by decide)).trans (hfrq 306 (by decide))).trans h306
  replace ra306 := ra306.trans (hadq 306 (by decide)).symm
  replace h307 := ((hfrp 307 (by decide)).trans (hfrq 307 (by decide))).trans h307
  replace ra307 := ra307.trans (hadq 307 (by decide)).symm
  replace h308 := ((hfrp 308 (by decide)).trans (hfrq 308 (by decide))).trans h308
  replace ra308 := ra308.trans (hadq 308 (by decide)).symm
  replace h310 := ((hfrp 310 (by decide)).trans (hfrq 310 (by decide))).trans h310
  replace ra310 := ra310.trans (hadq 310 (by decide)).symm
  replace h311 := ((hfrp 311 (by decide)).trans (hfrq 311 (by decide))).trans h311
  replace ra311 := ra311.trans (hadq 311 (by decide)).symm
  replace h312 := ((hfrp 312 (by decide)).trans (hfrq 312 (by decide))).trans h312
  replace ra312 := ra312.trans (hadq 312 (by decide)).symm
  replace h313 := ((hfrp 313 (by decide)).trans (hfrq 313 (by decide))).trans h313
  replace ra313 := ra313.trans (hadq 313 (by decide)).symm
  replace h314 := ((hfrp 314 (by decide)).trans (hfrq 314 (by decide))).trans h314
  replace ra314 := ra314.trans (hadq 314 (by decide)).symm
  replace h315 := ((hfrp 315 (by decide)).trans (hfrq 315 (by decide))).trans h315
  replace ra315 := ra315.trans (hadq 315 (by decide)).symm
  replace h316 := ((hfrp 316 (by decide)).trans (hfrq 316 (by decide))).trans h316
  replace ra316 := ra316.trans (hadq 316 (by decide)).symm
  replace h317 := ((hfrp 317 (by decide)).trans (hfrq 317 (by decide))).trans h317
  replace ra317 := ra317.trans (hadq 317 (by decide)).symm
  replace h318 := ((hfrp 318 (by decide)).trans (hfrq 318 (by decide))).trans h318
  replace ra318 := ra318.trans (hadq 318 (by decide)).symm
  clear hadq hfrq hfrp
  refine V_aload_n C dX7_init_137 rfl ?_
  refine V_iconst (v := 3) C dX7_init_138 rfl ?_
  refine G_newi 320 C dX7_init_139 ar_int (hn 320 (by decide)) rfl (by decide) (Nat.le_of_ble_eq_true rfl) (Nat.le_of_ble_eq_true rfl) (fun ad17 A17 hadq h320 hfrq => ?_)
  rw [show ad16 300 = ad17 300 from (hadq 300 (by decide)).symm]
  replace hM := (hfrq 300 (by decide)).trans hM
  obtain ⟨r320, ra320⟩ : ∃ r, r = ad17 320 := ⟨_, rfl⟩
  rw [← ra320]
  refine G_putF C rfl dX7_init_141 fp_7_59 hM rfl rfl (Nat.le_of_ble_eq_true rfl) (fun B17 hM hfrp => ?_)
  dsimp only [List.set] at hM
  replace h320 := (hfrp 320 (by decide)).trans h320
  replace hn : ∀ x, 321 ≤ x → B17 x = none := fun x hx => ((hfrp x (by omega)).trans (hfrq x (by omega))).trans (hn x (by omega))
  replace had : ∀ x, x ≤ 300 → ad17 x = ad x := fun x hx => (hadq x (by omega)).trans (had x hx)
  replace hfM : ∀ x, (x < 300 ∨ 400 ≤ x) → B17 x = F x := fun x hx => ((hfrp x (by omega)).trans (hfrq x (by omega))).trans (hfM x hx)
  replace h302 := ((hfrp 302 (by decide)).trans (hfrq 302 (by decide))).trans h302
  replace ra302 := ra302.trans (hadq 302 (by decide)).symm
  replace h304 := ((hfrp 304 (by decide)).trans (hfrq 304 (by decide))).trans h304
  replace ra304 := ra304.trans (hadq 304 (by decide)).symm
  replace h305 := ((hfrp 305 (by decide)).trans (hfrq 305 (by decide))).trans h305
  replace ra305 := ra305.trans (hadq 305 (by decide)).symm
  replace h306 := ((hfrp 306 (by decide)).trans (hfrq 306 (by decide))).trans h306
  replace ra306 := ra306.trans (hadq 306 (by decide)).symm
  replace h307 := ((hfrp 307 (by decide)).trans (hfrq 307 (by decide))).trans h307
  replace ra307 := ra307.trans (hadq 307 (by decide)).symm
  replace h308 := ((hfrp 308 (by decide)).trans (hfrq 308 (by decide))).trans h308
  replace ra308 := ra308.trans (hadq 308 (by decide)).symm
  replace h310 := ((hfrp 310 (by decide)).trans (hfrq 310 (by decide))).trans h310
  replace ra310 := ra310.trans (hadq 310 (by decide)).symm
  replace h311 := ((hfrp 311 (by decide)).trans (hfrq 311 (by decide))).trans h311
  replace ra311 := ra311.trans (hadq 311 (by decide)).symm
  replace h312 := ((hfrp 312 (by decide)).trans (hfrq 312 (by decide))).trans h312
  replace ra312 := ra312.trans (hadq 312 (by decide)).symm
  replace h313 := ((hfrp 313 (by decide)).trans (hfrq 313 (by decide))).trans h313
  replace ra313 := ra313.trans (hadq 313 (by decide)).symm
  replace h314 := ((hfrp 314 (by decide)).trans (hfrq 314 (by decide))).trans h314
  replace ra314 := ra314.trans (hadq 314 (by decide)).symm
  replace h315 := ((hfrp 315 (by decide)).trans (hfrq 315 (by decide))).trans h315
  replace ra315 := ra315.trans (hadq 315 (by decide)).symm
  replace h316 := ((hfrp 316 (by decide)).trans (hfrq 316 (by decide))).trans h316
  replace ra316 := ra316.trans (hadq 316 (by decide)).symm
  replace h317 := ((hfrp 317 (by decide)).trans (hfrq 317 (by decide))).trans h317
  replace ra317 := ra317.trans (hadq 317 (by decide)).symm
  replace h318 := ((hfrp 318 (by decide)).trans (hfrq 318 (by decide))).trans h318
  replace ra318 := ra318.trans (hadq 318 (by decide)).symm
  replace h319 := ((hfrp 319 (by decide)).trans (hfrq 319 (by decide))).trans h319
  replace ra319 := ra319.trans (hadq 319 (by decide)).symm
  clear hadq hfrq hfrp
  refine V_aload_n C dX7_init_144 rfl ?_
  refine V_iconst (v := 3) C dX7_init_145 rfl ?_
  refine G_newi 321 C dX7_init_146 ar_int (hn 321 (by decide)) rfl (by decide) (Nat.le_of_ble_eq_true rfl) (Nat.le_of_ble_eq_true rfl) (fun ad18 A18 hadq h321 hfrq => ?_)
  rw [show ad17 300 = ad18 300 from (hadq 300 (by decide)).symm]
  replace hM := (hfrq 300 (by decide)).trans hM
  obtain ⟨r321, ra321⟩ : ∃ r, r = ad18 321 := ⟨_, rfl⟩
  rw [← ra321]
  refine G_putF C rfl dX7_init_148 fp_7_62 hM rfl rfl (Nat.le_of_ble_eq_true rfl) (fun B18 hM hfrp => ?_)
  dsimp only [List.set] at hM
  replace h321 := (hfrp 321 (by decide)).trans h321
  replace hn : ∀ x, 322 ≤ x → B18 x = none := fun x hx => ((hfrp x (by omega)).trans (hfrq x (by omega))).trans (hn x (by omega))
  replace had : ∀ x, x ≤ 300 → ad18 x = ad x := fun x hx => (hadq x (by omega)).trans (had x hx)
  replace hfM : ∀ x, (x < 300 ∨ 400 ≤ x) → B18 x = F x := fun x hx => ((hfrp x (by omega)).trans (hfrq x (by omega))).trans (hfM x hx)
  replace h302 := ((hfrp 302 (by decide)).trans (hfrq 302 (by decide))).trans h302
  replace ra302 := ra302.trans (hadq 302 (by decide)).symm
  replace h304 := ((hfrp 304 (by decide)).trans (hfrq 304 (by decide))).trans h304
  replace ra304 := ra304.trans (hadq 304 (by decide)).symm
  replace h305 := ((hfrp 305 (by decide)).trans (hfrq 305 (by decide))).trans h305
  replace ra305 := ra305.trans (hadq 305 (by decide)).symm
  replace h306 := ((hfrp 306 (by decide)).trans (hfrq 306 (by decide))).trans h306
  replace ra306 := ra306.trans (hadq 306 (by decide)).symm
  replace h307 := ((hfrp 307 (by decide)).trans (hfrq 307 (by decide))).trans h307
  replace ra307 := ra307.trans (hadq 307 (by decide)).symm
  replace h308 := ((hfrp 308 (by decide)).trans (hfrq 308 (by decide))).trans h308
  replace ra308 := ra308.trans (hadq 308 (by decide)).symm
  replace h310 := ((hfrp 310 (by decide)).trans (hfrq 310 (by decide))).trans h310
  replace ra310 := ra310.trans (hadq 310 (by decide)).symm
  replace h311 := ((hfrp 311 (by decide)).trans (hfrq 311 (by decide))).trans h311
  replace ra311 := ra311.trans (hadq 311 (by decide)).symm
  replace h312 := ((hfrp 312 (by decide)).trans (hfrq 312 (by decide))).trans h312
  replace ra312 := ra312.trans (hadq 312 (by decide)).symm
  replace h313 := ((hfrp 313 (by decide)).trans (hfrq 313 (by decide))).trans h313
  replace ra313 := ra313.trans (hadq 313 (by decide)).symm
  replace h314 := ((hfrp 314 (by decide)).trans (hfrq 314 (by decide))).trans h314
  replace ra314 := ra314.trans (hadq 314 (by decide)).symm
  replace h315 := ((hfrp 315 (by decide)).trans (hfrq 315 (by decide))).trans h315
  replace ra315 := ra315.trans (hadq 315 (by decide)).symm
  replace h316 := ((hfrp 316 (by decide)).trans (hfrq 316 (by decide))).trans h316
  replace ra316 := ra316.trans (hadq 316 (by decide)).symm
  replace h317 := ((hfrp 317 (by decide)).trans (hfrq 317 (by decide))).trans h317
  replace ra317 := ra317.trans (hadq 317 (by decide)).symm
  replace h318 := ((hfrp 318 (by decide)).trans (hfrq 318 (by decide))).trans h318
  replace ra318 := ra318.trans (hadq 318 (by decide)).symm
  replace h319 := ((hfrp 319 (by decide)).trans (hfrq 319 (by decide))).trans h319
  replace ra319 := ra319.trans (hadq 319 (by decide)).symm
  replace h320 := ((hfrp 320 (by decide)).trans (hfrq 320 (by decide))).trans h320
  replace ra320 := ra320.trans (hadq 320 (by decide)).symm
  clear hadq hfrq hfrp
  refine V_aload_n C dX7_init_151 rfl ?_
  refine V_iconst (v := 5) C dX7_init_152 rfl ?_
  refine G_newi 322 C dX7_init_153 ar_int (hn 322 (by decide)) rfl (by decide) (Nat.le_of_ble_eq_true rfl) (Nat.le_of_ble_eq_true rfl) (fun ad19 A19 hadq h322 hfrq => ?_)
  rw [show ad18 300 = ad19 300 from (hadq 300 (by decide)).symm]
  replace hM := (hfrq 300 (by decide)).trans hM
  obtain ⟨r322, ra322⟩ : ∃ r, r = ad19 322 := ⟨_, rfl⟩
  rw [← ra322]
  refine G_putF C rfl dX7_init_155 fp_7_65 hM rfl rfl (Nat.le_of_ble_eq_true rfl) (fun B19 hM hfrp => ?_)
  dsimp only [List.set] at hM
  replace h322 := (hfrp 322 (by decide)).trans h322
  replace hn : ∀ x, 323 ≤ x → B19 x = none := fun x hx => ((hfrp x (by omega)).trans (hfrq x (by omega))).trans (hn x (by omega))
  replace had : ∀ x, x ≤ 300 → ad19 x = ad x := fun x hx => (hadq x (by omega)).trans (had x hx)
  replace hfM : ∀ x, (x < 300 ∨ 400 ≤ x) → B19 x = F x := fun x hx => ((hfrp x (by omega)).trans (hfrq x (by omega))).trans (hfM x hx)
  replace h302 := ((hfrp 302 (by decide)).trans (hfrq 302 (by decide))).trans h302
  replace ra302 := ra302.trans (hadq 302 (by decide)).symm
  replace h304 := ((hfrp 304 (by decide)).trans (hfrq 304 (by decide))).trans h304
  replace ra304 := ra304.trans (hadq 304 (by decide)).symm
  replace h305 := ((hfrp 305 (by decide)).trans (hfrq 305 (by decide))).trans h305
  replace ra305 := ra305.trans (hadq 305 (by decide)).symm
  replace h306 := ((hfrp 306 (by decide)).trans (hfrq 306 (by decide))).trans h306
  replace ra306 := ra306.trans (hadq 306 (by decide)).symm
  replace h307 := ((hfrp 307 (by decide)).trans (hfrq 307 (by decide))).trans h307
  replace ra307 := ra307.trans (hadq 307 (by decide)).symm
  replace h308 := ((hfrp 308 (by decide)).trans (hfrq 308 (by decide))).trans h308
  replace ra308 := ra308.trans (hadq 308 (by decide)).symm
  replace h310 := ((hfrp 310 (by decide)).trans (hfrq 310 (by decide))).trans h310
  replace ra310 := ra310.trans (hadq 310 (by decide)).symm
  replace h311 := ((hfrp 311 (by decide)).trans (hfrq 311 (by decide))).trans h311
  replace ra311 := ra311.trans (hadq 311 (by decide)).symm
  replace h312 := ((hfrp 312 (by decide)).trans (hfrq 312 (by decide))).trans h312
  replace ra312 := ra312.trans (hadq 312 (by decide)).symm
  replace h313 := ((hfrp 313 (by decide)).trans (hfrq 313 (by decide))).trans h313
  replace ra313 := ra313.trans (hadq 313 (by decide)).symm
  replace h314 := ((hfrp 314 (by decide)).trans (hfrq 314 (by decide))).trans h314
  replace ra314 := ra314.trans (hadq 314 (by decide)).symm
  replace h315 := ((hfrp 315 (by decide)).trans (hfrq 315 (by decide))).trans h315
  replace ra315 := ra315.trans (hadq 315 (by decide)).symm
  replace h316 := ((hfrp 316 (by decide)).trans (hfrq 316 (by decide))).trans h316
  replace ra316 := ra316.trans (hadq 316 (by decide)).symm
  replace h317 := ((hfrp 317 (by decide)).trans (hfrq 317 (by decide))).trans h317
  replace ra317 := ra317.trans (hadq 317 (by decide)).symm
  replace h318 := ((hfrp 318 (by decide)).trans (hfrq 318 (by decide))).trans h318
  replace ra318 := ra318.trans (hadq 318 (by decide)).symm
  replace h319 := ((hfrp 319 (by decide)).trans (hfrq 319 (by decide))).trans h319
  replace ra319 := ra319.trans (hadq 319 (by decide)).symm
  replace h320 := ((hfrp 320 (by decide)).trans (hfrq 320 (by decide))).trans h320
  replace ra320 := ra320.trans (hadq 320 (by decide)).symm
  replace h321 := ((hfrp 321 (by decide)).trans (hfrq 321 (by decide))).trans h321
  replace ra321 := ra321.trans (hadq 321 (by decide)).symm
  clear hadq hfrq hfrp
  refine V_aload_n C dX7_init_158 rfl ?_
  refine V_bipush (v := 9) C dX7_init_159 (by decide) ?_
  refine G_newi 323 C dX7_init_161 ar_int (hn 323 (by decide)) rfl (by decide) (Nat.le_of_ble_eq_true rfl) (Nat.le_of_ble_eq_true rfl) (fun ad20 A20 hadq h323 hfrq => ?_)
  rw [show ad19 300 = ad20 300 from (hadq 300 (by decide)).symm]
  replace hM := (hfrq 300 (by decide)).trans hM
  obtain ⟨r323, ra323⟩ : ∃ r, r = ad20 323 := ⟨_, rfl⟩
  rw [← ra323]
  refine G_putF C rfl dX7_init_163 fp_7_68 hM rfl rfl (Nat.le_of_ble_eq_true rfl) (fun B20 hM hfrp => ?_)
  dsimp only [List.set] at hM
  replace h323 := (hfrp 323 (by decide)).trans h323
  replace hn : ∀ x, 324 ≤ x → B20 x = none := fun x hx => ((hfrp x (by omega)).trans (hfrq x (by omega))).trans (hn x (by omega))
  replace had : ∀ x, x ≤ 300 → ad20 x = ad x := fun x hx => (hadq x (by omega)).trans (had x hx)
  replace hfM : ∀ x, (x < 300 ∨ 400 ≤ x) → B20 x = F x := fun x hx => ((hfrp x (by omega)).trans (hfrq x (by omega))).trans (hfM x hx)
  replace h302 := ((hfrp 302 (by decide)).trans (hfrq 302 (by decide))).trans h302
  replace ra302 := ra302.trans (hadq 302 (by decide)).symm
  replace h304 := ((hfrp 304 (by decide)).trans (hfrq 304 (by decide))).trans h304
  replace ra304 := ra304.trans (hadq 304 (by decide)).symm
  replace h305 := ((hfrp 305 (by decide)).trans (hfrq 305 (by decide))).trans h305
  replace ra305 := ra305.trans (hadq 305 (by decide)).symm
  replace h306 := ((hfrp 306 (by decide)).trans (hfrq 306 (by decide))).trans h306
  replace ra306 := ra306.trans (hadq 306 (by decide)).symm
  replace h307 := ((hfrp 307 (by decide)).trans (hfrq 307 (by decide))).trans h307
  replace ra307 := ra307.trans (hadq 307 (by decide)).symm
  replace h308 := ((hfrp 308 (by decide)).trans (hfrq 308 (by decide))).trans h308
  replace ra308 := ra308.trans (hadq 308 (by decide)).symm
  replace h310 := ((hfrp 310 (by decide)).trans (hfrq 310 (by decide))).trans h310
  replace ra310 := ra310.trans (hadq 310 (by decide)).symm
  replace h311 := ((hfrp 311 (by decide)).trans (hfrq 311 (by decide))).trans h311
  replace ra311 := ra311.trans (hadq 311 (by decide)).symm
  replace h312 := ((hfrp 312 (by decide)).trans (hfrq 312 (by decide))).trans h312
  replace ra312 := ra312.trans (hadq 312 (by decide)).symm
  replace h313 := ((hfrp 313 (by decide)).trans (hfrq 313 (by decide))).trans h313
  replace ra313 := ra313.trans (hadq 313 (by decide)).symm
  replace h314 := ((hfrp 314 (by decide)).trans (hfrq 314 (by decide))).trans h314
  replace ra314 := ra314.trans (hadq 314 (by decide)).symm
  replace h315 := ((hfrp 315 (by decide)).trans (hfrq 315 (by decide))).trans h315
  replace ra315 := ra315.trans (hadq 315 (by decide)).symm
  replace h316 := ((hfrp 316 (by decide)).trans (hfrq 316 (by decide))).trans h316
  replace ra316 := ra316.trans (hadq 316 (by decide)).symm
  replace h317 := ((hfrp 317 (by decide)).trans (hfrq 317 (by decide))).trans h317
  replace ra317 := ra317.trans (hadq 317 (by decide)).symm
  replace h318 := ((hfrp 318 (by decide)).trans (hfrq 318 (by decide))).trans h318
  replace ra318 := ra318.trans (hadq 318 (by decide)).symm
  replace h319 := ((hfrp 319 (by decide)).trans (hfrq 319 (by decide))).trans h319
  replace ra319 := ra319.trans (hadq 319 (by decide)).symm
  replace h320 := ((hfrp 320 (by decide)).trans (hfrq 320 (by decide))).trans h320
  replace ra320 := ra320.trans (hadq 320 (by decide)).symm
  replace h321 := ((hfrp 321 (by decide)).trans (hfrq 321 (by decide))).trans h321
  replace ra321 := ra321.trans (hadq 321 (by decide)).symm
  replace h322 := ((hfrp 322 (by decide)).trans (hfrq 322 (by decide))).trans h322
  replace ra322 := ra322.trans (hadq 322 (by decide)).symm
  clear hadq hfrq hfrp
  refine V_aload_n C dX7_init_166 rfl ?_
  refine V_bipush (v := 9) C dX7_init_167 (by decide) ?_
  refine G_newi 324 C dX7_init_169 ar_int (hn 324 (by decide)) rfl (by decide) (Nat.le_of_ble_eq_true rfl) (Nat.le_of_ble_eq_true rfl) (fun ad21 A21 hadq h324 hfrq => ?_)
  rw [show ad20 300 = ad21 300 from (hadq 300 (by decide)).symm]
  replace hM := (hfrq 300 (by decide)).trans hM
  obtain ⟨r324, ra324⟩ : ∃ r, r = ad21 324 := ⟨_, rfl⟩
  rw [← ra324]
  refine G_putF C rfl dX7_init_171 fp_7_71 hM rfl rfl (Nat.le_of_ble_eq_true rfl) (fun B21 hM hfrp => ?_)
  dsimp only [List.set] at hM
  replace h324 := (hfrp 324 (by decide)).trans h324
  replace hn : ∀ x, 325 ≤ x → B21 x = none := fun x hx => ((hfrp x (by omega)).trans (hfrq x (by omega))).trans (hn x (by omega))
  replace had : ∀ x, x ≤ 300 → ad21 x = ad x := fun x hx => (hadq x (by omega)).trans (had x hx)
  replace hfM : ∀ x, (x < 300 ∨ 400 ≤ x) → B21 x = F x := fun x hx => ((hfrp x (by omega)).trans (hfrq x (by omega))).trans (hfM x hx)
  replace h302 := ((hfrp 302 (by decide)).trans (hfrq 302 (by decide))).trans h302
  replace ra302 := ra302.trans (hadq 302 (by decide)).symm
  replace h304 := ((hfrp 304 (by decide)).trans (hfrq 304 (by decide))).trans h304
  replace ra304 := ra304.trans (hadq 304 (by decide)).symm
  replace h305 := ((hfrp 305 (by decide)).trans (hfrq 305 (by decide))).trans h305
  replace ra305 := ra305.trans (hadq 305 (by decide)).symm
  replace h306 := ((hfrp 306 (by decide)).trans (hfrq 306 (by decide))).trans h306
  replace ra306 := ra306.trans (hadq 306 (by decide)).symm
  replace h307 := ((hfrp 307 (by decide)).trans (hfrq 307 (by decide))).trans h307
  replace ra307 := ra307.trans (hadq 307 (by decide)).symm
  replace h308 := ((hfrp 308 (by decide)).trans (hfrq 308 (by decide))).trans h308
  replace ra308 := ra308.trans (hadq 308 (by decide)).symm
  replace h310 := ((hfrp 310 (by decide)).trans (hfrq 310 (by decide))).trans h310
  replace ra310 := ra310.trans (hadq 310 (by decide)).symm
  replace h311 := ((hfrp 311 (by decide)).trans (hfrq 311 (by decide))).trans h311
  replace ra311 := ra311.trans (hadq 311 (by decide)).symm
  replace h312 := ((hfrp 312 (by decide)).trans (hfrq 312 (by decide))).trans h312
  replace ra312 := ra312.trans (hadq 312 (by decide)).symm
  replace h313 := ((hfrp 313 (by decide)).trans (hfrq 313 (by decide))).trans h313
  replace ra313 := ra313.trans (hadq 313 (by decide)).symm
  replace h314 := ((hfrp 314 (by decide)).trans (hfrq 314 (by decide))).trans h314
  replace ra314 := ra314.trans (hadq 314 (by decide)).symm
  replace h315 := ((hfrp 315 (by decide)).trans (hfrq 315 (by decide))).trans h315
  replace ra315 := ra315.trans (hadq 315 (by decide)).symm
  replace h316 := ((hfrp 316 (by decide)).trans (hfrq 316 (by decide))).trans h316
  replace ra316 := ra316.trans (hadq 316 (by decide)).symm
  replace h317 := ((hfrp 317 (by decide)).trans (hfrq 317 (by decide))).trans h317
  replace ra317 := ra317.trans (hadq 317 (by decide)).symm
  replace h318 := ((hfrp 318 (by decide)).trans (hfrq 318 (by decide))).trans h318
  replace ra318 := ra318.trans (hadq 318 (by decide)).symm
  replace h319 := ((hfrp 319 (by decide)).trans (hfrq 319 (by decide))).trans h319
  replace ra319 := ra319.trans (hadq 319 (by decide)).symm
  replace h320 := ((hfrp 320 (by decide)).trans (hfrq 320 (by decide))).trans h320
  replace ra320 := ra320.trans (hadq 320 (by decide)).symm
  replace h321 := ((hfrp 321 (by decide)).trans (hfrq 321 (by decide))).trans h321
  replace ra321 := ra321.trans (hadq 321 (by decide)).symm
  replace h322 := ((hfrp 322 (by decide)).trans (hfrq 322 (by decide))).trans h322
  replace ra322 := ra322.trans (hadq 322 (by decide)).symm
  replace h323 := ((hfrp 323 (by decide)).trans (hfrq 323 (by decide))).trans h323
  replace ra323 := ra323.trans (hadq 323 (by decide)).symm
  clear hadq hfrq hfrp
  subst ra302 ra304 ra305 ra306 ra307 ra308 ra310 ra311 ra312 ra313 ra314 ra315 ra316 ra317 ra318 ra319 ra320 ra321 ra322 ra323 ra324
  refine V_iconst (v := 0) C dX7_init_174 rfl ?_
  refine V_nm (show (0 : Int32) = nI 0 from rfl) ?_
  refine V_istore_n C dX7_init_175 (by decide) ?_
  have ends : ∀ (H : Fn) (a20 a21 a22 : Nat → Int32), H 320 = some (aI (xD X) 3 a20) → (∀ j, j < 3 → a20 j = 5) → H 321 = some (aI (xD X) 3 a21) → (∀ j, j < 3 → a21 j = 2) → H 322 = some (aI (xD X) 5 a22) → (∀ j, j < 5 → a22 j = -1) → (∀ x, x ∉ [320, 321, 322] → H x = B21 x) → MRep (xD X) ad21 H st0S 0 := by
    intro H a20 a21 a22 h320 b20 h321 b21 h322 b22 hK
    refine ⟨(hK 300 (by decide)).trans hM, ⟨by decide, (show 0 + 0 ≤ 400 by decide), fun x hx => absurd hx List.not_mem_nil, _, (hK 302 (by decide)).trans h302, fun j hj => absurd hj (Nat.not_lt_zero j)⟩, fun m hm => absurd hm (Nat.not_lt_zero m), ⟨_, (hK 304 (by decide)).trans h304⟩,
      ⟨_, (hK 305 (by decide)).trans h305, fun j hj => absurd hj (Nat.not_lt_zero j)⟩, ⟨_, (hK 306 (by decide)).trans h306, fun j hj => absurd hj (Nat.not_lt_zero j)⟩, ⟨_, (hK 307 (by decide)).trans h307, fun j hj => absurd hj (Nat.not_lt_zero j)⟩, ⟨_, (hK 308 (by decide)).trans h308, fun j _ => (if_neg (Nat.not_lt_zero j)).symm⟩,
      ⟨_, (hK 310 (by decide)).trans h310, fun j hj => absurd hj (Nat.not_lt_zero j)⟩, ⟨_, (hK 311 (by decide)).trans h311, fun m hm => absurd hm (Nat.not_lt_zero m)⟩, ⟨_, (hK 312 (by decide)).trans h312, fun j _ => (if_neg (Nat.not_lt_zero _)).symm⟩, ⟨_, (hK 313 (by decide)).trans h313, fun m hm => absurd hm (Nat.not_lt_zero m)⟩,
      ⟨_, (hK 314 (by decide)).trans h314, fun j _ => (if_neg (fun g => absurd g.1 (Nat.not_lt_zero _))).symm⟩, ⟨_, (hK 315 (by decide)).trans h315, fun j _ => rfl⟩, ⟨_, (hK 316 (by decide)).trans h316, fun l _ j hj => absurd hj (Nat.not_lt_zero j)⟩, ⟨_, (hK 317 (by decide)).trans h317, fun j _ => rfl⟩, ⟨_, (hK 318 (by decide)).trans h318, fun l _ j hj => absurd hj (Nat.not_lt_zero j)⟩,
      ⟨_, (hK 319 (by decide)).trans h319, fun j _ => rfl⟩, ⟨_, h320, fun j hj => (b20 j hj).trans rfl⟩, ⟨_, h321, fun j hj => (b21 j hj).trans rfl⟩, ⟨_, h322, fun j hj => (b22 j hj).trans rfl⟩, ⟨_, (hK 323 (by decide)).trans h323, fun j _ => rfl⟩, ⟨_, (hK 324 (by decide)).trans h324, fun j _ => rfl⟩⟩
  have loop2 : ∀ (d k : Nat) (H : Fn) (a20 a21 a22 : Nat → Int32), k + d = 5 → H 320 = some (aI (xD X) 3 a20) → (∀ j, j < 3 → a20 j = 5) → H 321 = some (aI (xD X) 3 a21) → (∀ j, j < 3 → a21 j = 2) → H 322 = some (aI (xD X) 5 a22) → (∀ j, j < k → a22 j = -1) → (∀ x, x ∉ [320, 321, 322] → H x = B21 x) → V X 21 10538 203 [(0, .ref (ad21 300)), (1, .int (nI k))] [] ad21 H := by
    intro d
    induction d with
    | zero =>
      intro k H a20 a21 a22 hd h320 b20 h321 b21 h322 b22 hK
      have hk : k = 5 := by omega
      subst hk
      refine V_iload_n C dX7_init_203 rfl ?_
      refine V_iconst (v := 5) C dX7_init_204 rfl ?_
      refine V_icmpge_t (tgt := 221) C dX7_init_205 (by decide) (by decide) ?_
      exact V_return C Q dX7_init_221 (Nat.le_of_ble_eq_true rfl) (Nat.le_of_ble_eq_true rfl) ⟨rfl, had, ends H a20 a21 a22 h320 b20 h321 b21 h322 b22 hK, fun x hx => (hK x (by simp; omega)).trans (hfM x hx)⟩
    | succ d ih =>
      intro k H a20 a21 a22 hd h320 b20 h321 b21 h322 b22 hK
      have hM := (hK 300 (by decide)).trans hM
      refine V_iload_n C dX7_init_203 rfl ?_
      refine V_iconst (v := 5) C dX7_init_204 rfl ?_
      refine V_icmpge_f (tgt := 221) C dX7_init_205 (by decide) (nI_ge (a := k) (b := 5) (by omega) (by decide)) ?_
      refine V_aload_n C dX7_init_208 rfl ?_
      refine V_get C dX7_init_209 fr_7_65 hM rfl ?_
      refine V_iload_n C dX7_init_212 rfl ?_
      refine V_iconst (v := (-1)) C dX7_init_213 rfl ?_
      refine G_iast C dX7_init_214 h322 rfl (show k < 5 by omega) (by decide) (fun H1 h322 hfr => ?_)
      have h320 := (hfr _ (by omega)).trans h320
      have h321 := (hfr _ (by omega)).trans h321
      refine V_iinc C dX7_init_215 rfl (nI_inc _) (by decide) ?_
      refine V_goto (tgt := 203) C dX7_init_218 (by decide) ?_
      refine V_sb (ih (k + 1) H1 a20 a21 _ (by omega) h320 b20 h321 b21 h322 (fun j hj => ?_) (fun x hx => (hfr x (by simp at hx; omega)).trans (hK x hx))) ⟨rfl, rfl, trivial⟩
      by_cases e : j = k
      · rw [e, pk_us]
      · rw [pk_un e]; exact b22 j (by omega)
  have loop1 : ∀ (d k : Nat) (H : Fn) (a20 a21 : Nat → Int32), k + d = 3 → H 320 = some (aI (xD X) 3 a20) → (∀ j, j < k → a20 j = 5) → H 321 = some (aI (xD X) 3 a21) → (∀ j, j < k → a21 j = 2) → (∀ x, x ∉ [320, 321] → H x = B21 x) → V X 21 10538 176 [(0, .ref (ad21 300)), (1, .int (nI k))] [] ad21 H := by
    intro d
    induction d with
    | zero =>
      intro k H a20 a21 hd h320 b20 h321 b21 hK
      have hk : k = 3 := by omega
      subst hk
      refine V_iload_n C dX7_init_176 rfl ?_
      refine V_iconst (v := 3) C dX7_init_177 rfl ?_
      refine V_icmpge_t (tgt := 201) C dX7_init_178 (by decide) (by decide) ?_
      refine V_iconst (v := 0) C dX7_init_201 rfl ?_
      refine V_nm (show (0 : Int32) = nI 0 from rfl) ?_
      refine V_istore_n C dX7_init_202 (by decide) ?_
      exact V_sb (loop2 5 0 H a20 a21 _ rfl h320 b20 h321 b21 ((hK 322 (by decide)).trans h322) (fun j hj => absurd hj (Nat.not_lt_zero j)) (fun x hx => hK x (by simp at hx ⊢; omega))) ⟨rfl, rfl, trivial⟩
    | succ d ih =>
      intro k H a20 a21 hd h320 b20 h321 b21 hK
      have hM := (hK 300 (by decide)).trans hM
      refine V_iload_n C dX7_init_176 rfl ?_
      refine V_iconst (v := 3) C dX7_init_177 rfl ?_
      refine V_icmpge_f (tgt := 201) C dX7_init_178 (by decide) (nI_ge (a := k) (b := 3) (by omega) (by decide)) ?_
      refine V_aload_n C dX7_init_181 rfl ?_
      refine V_get C dX7_init_182 fr_7_59 hM rfl ?_
      refine V_iload_n C dX7_init_185 rfl ?_
      refine V_iconst (v := 5) C dX7_init_186 rfl ?_
      refine G_iast C dX7_init_187 h320 rfl (show k < 3 by omega) (by decide) (fun H1 h320 hfr => ?_)
      have hM := (hfr _ (by omega)).trans hM
      have h321 := (hfr _ (by omega)).trans h321
      have hfr1 := hfr
      refine V_aload_n C dX7_init_188 rfl ?_
      refine V_get C dX7_init_189 fr_7_62 hM rfl ?_
      refine V_iload_n C dX7_init_192 rfl ?_
      refine V_iconst (v := 2) C dX7_init_193 rfl ?_
      refine G_iast C dX7_init_194 h321 rfl (show k < 3 by omega) (by decide) (fun H2 h321 hfr => ?_)
      have h320 := (hfr _ (by omega)).trans h320
      refine V_iinc C dX7_init_195 rfl (nI_inc _) (by decide) ?_
      refine V_goto (tgt := 176) C dX7_init_198 (by decide) ?_
      refine V_sb (ih (k + 1) H2 _ _ (by omega) h320 (fun j hj => ?_) h321 (fun j hj => ?_) (fun x hx => ((hfr x (by simp at hx; omega)).trans (hfr1 x (by simp at hx; omega))).trans (hK x hx))) ⟨rfl, rfl, trivial⟩
      · by_cases e : j = k
        · rw [e, pk_us]
        · rw [pk_un e]; exact b20 j (by omega)
      · by_cases e : j = k
        · rw [e, pk_us]
        · rw [pk_un e]; exact b21 j (by omega)
  exact V_sb (loop1 3 0 B21 _ _ rfl h320 (fun j hj => absurd hj (Nat.not_lt_zero j)) h321 (fun j hj => absurd hj (Nat.not_lt_zero j)) (fun _ _ => rfl)) ⟨rfl, rfl, trivial⟩
