/-! ===== the model: a part is put into a queue; a text is submitted ===== -/
set_option maxHeartbeats 400000 in
set_option maxRecDepth 100000 in
/-- puts -/
theorem m_puts {l : Launch} {D : Dx} {b0 : Nat} {ad : Nat → Nat} {F : Fn} (a b c d : Nat) (th : Int32) (lk n pc wh wt : Nat) (f315 f316 f311 f313 : Nat → Int32) (hO : mObj ad F a b c d th) (h315 : F 315 = some (aI D 3 f315)) (h316 : F 316 = some (aI D 600 f316)) (h311 : F 311 = some (aI D 200 f311)) (h313 : F 313 = some (aZ D 200 f313)) (g315 : f315 lk = nI n) (hl : lk < 3) (hn : n < 200) (hpc : pc < 200) (hwt : wt ≤ 1) : Ct l D b0 yX7_puts (wsA yX7_puts cX7_puts 5 none) r0 [.ref (ad 300), .int (nI lk), .int (nI pc), .int (nI wh), .int (nI wt)] ad F (fun v ad1 F1 => v = none ∧ ad = ad1 ∧ F1 315 = some (aI D 3 (upd f315 lk (nI (n + 1)))) ∧ F1 316 = some (aI D 600 (upd f316 (200 * lk + n) (nI pc))) ∧ F1 311 = some (aI D 200 (upd f311 pc (nI wh))) ∧ F1 313 = some (aZ D 200 (upd f313 pc (nI wt))) ∧ ∀ x, x ∉ [311, 313, 315, 316] → F1 x = F x) noX := by
  refine Ct.of (by decide +kernel) (by simp [Value.category]) (Nat.le_of_ble_eq_true rfl) (fun X eD eb el C Q => ?_)
  subst eD; subst eb; subst el
  have hM := hO
  unfold mObj at hM
  have hK : ∀ x, x ∉ [311, 313, 315, 316] → F x = F x := fun _ _ => rfl
  have hnz : vp_nar .boolean (nI wt) = nI wt := by
    rcases (show wt = 0 ∨ wt = 1 by omega) with e | e <;> subst e <;> rfl
  refine V_aload_n C dX7_puts_0 rfl ?_
  refine V_get C dX7_puts_1 fr_7_47 hM rfl ?_
  refine V_sipush (v := 200) C dX7_puts_4 (by decide) ?_
  refine V_iload_n C dX7_puts_7 rfl ?_
  refine V_imul C dX7_puts_8 ?_
  refine V_nm (pk_mul 200 lk) ?_
  refine V_aload_n C dX7_puts_9 rfl ?_
  refine V_get C dX7_puts_10 fr_7_44 hM rfl ?_
  refine V_iload_n C dX7_puts_13 rfl ?_
  refine V_iald C dX7_puts_14 h315 rfl hl (by decide) ?_
  refine V_nm g315 ?_
  refine V_iadd C dX7_puts_15 ?_
  refine V_nm (nI_add _ _) ?_
  refine V_iload_n C dX7_puts_16 rfl ?_
  refine G_iast C dX7_puts_17 h316 rfl (show 200 * lk + n < 600 by omega) (by decide) (fun F1 h316 hfr => ?_)
  have hM := (hfr _ (by omega)).trans hM
  have h315 := (hfr _ (by omega)).trans h315
  have h311 := (hfr _ (by omega)).trans h311
  have h313 := (hfr _ (by omega)).trans h313
  have hK := fr_step hK hfr (by decide)
  refine V_aload_n C dX7_puts_18 rfl ?_
  refine V_get C dX7_puts_19 fr_7_44 hM rfl ?_
  refine V_iload_n C dX7_puts_22 rfl ?_
  refine V_dup2 C dX7_puts_23 rfl rfl ?_
  refine V_iald C dX7_puts_24 h315 rfl hl (by decide) ?_
  refine V_nm g315 ?_
  refine V_iconst (v := 1) C dX7_puts_25 rfl ?_
  refine V_iadd C dX7_puts_26 ?_
  refine V_nm (nI_1 _) ?_
  refine G_iast C dX7_puts_27 h315 rfl hl (by decide) (fun F2 h315 hfr => ?_)
  have hM := (hfr _ (by omega)).trans hM
  have h316 := (hfr _ (by omega)).trans h316
  have h311 := (hfr _ (by omega)).trans h311
  have h313 := (hfr _ (by omega)).trans h313
  have hK := fr_step hK hfr (by decide)
  refine V_aload_n C dX7_puts_28 rfl ?_
  refine V_get C dX7_puts_29 fr_7_31 hM rfl ?_
  refine V_iload_n C dX7_puts_32 rfl ?_
  refine V_iload_n C dX7_puts_33 rfl ?_
  refine G_iast C dX7_puts_34 h311 rfl hpc (by decide) (fun F3 h311 hfr => ?_)
  have hM := (hfr _ (by omega)).trans hM
  have h316 := (hfr _ (by omega)).trans h316
  have h315 := (hfr _ (by omega)).trans h315
  have h313 := (hfr _ (by omega)).trans h313
  have hK := fr_step hK hfr (by decide)
  refine V_aload_n C dX7_puts_35 rfl ?_
  refine V_get C dX7_puts_36 fr_7_37 hM rfl ?_
  refine V_iload_n C dX7_puts_39 rfl ?_
  refine V_iload C dX7_puts_40 rfl ?_
  refine G_zast C dX7_puts_42 h313 rfl hpc (by decide) hnz (fun F4 h313 hfr => ?_)
  have hM := (hfr _ (by omega)).trans hM
  have h316 := (hfr _ (by omega)).trans h316
  have h315 := (hfr _ (by omega)).trans h315
  have h311 := (hfr _ (by omega)).trans h311
  have hK := fr_step hK hfr (by decide)
  exact V_return C Q dX7_puts_43 (Nat.le_of_ble_eq_true rfl) (Nat.le_of_ble_eq_true rfl) ⟨rfl, rfl, h315, h316, h311, h313, hK⟩
set_option maxHeartbeats 400000 in
set_option maxRecDepth 100000 in
/-- partsIn -/
theorem m_partsInR {l : Launch} {D : Dx} {b0 : Nat} {ad : Nat → Nat} {F : Fn} (a b c d : Nat) (th : Int32) (m : Nat) (L : List Nat) (f305 : Nat → Int32) (hO : mObj ad F a b c d th) (h305 : F 305 = some (aI D 20 f305)) (g305 : f305 m = nI L.length) (hm : m < 20) (hw : RwA D F 304 8000 (400 * m) L) (hl4 : L.length ≤ 400) : Ct l D b0 yX7_partsIn (wsA yX7_partsIn cX7_partsIn 2 (some .int)) (rK 4) [.ref (ad 300), .int (nI m)] ad F (pRd (some (.int (nI (npL L)))) ad F) noX := by
  refine Ct.of (by decide +kernel) (by simp [Value.category]) (Nat.le_of_ble_eq_true rfl) (fun X eD eb el C Q => ?_)
  subst eD; subst eb; subst el
  have hM := hO
  unfold mObj at hM
  refine V_aload_n C dX7_partsIn_0 rfl ?_
  refine V_get C dX7_partsIn_1 fr_7_13 hM rfl ?_
  refine V_sipush (v := 400) C dX7_partsIn_4 (by decide) ?_
  refine V_iload_n C dX7_partsIn_7 rfl ?_
  refine V_imul C dX7_partsIn_8 ?_
  refine V_nm (pk_mul 400 m) ?_
  refine V_aload_n C dX7_partsIn_9 rfl ?_
  refine V_get C dX7_partsIn_10 fr_7_16 hM rfl ?_
  refine V_iload_n C dX7_partsIn_13 rfl ?_
  refine V_iald C dX7_partsIn_14 h305 rfl hm (by decide) ?_
  refine V_nm g305 ?_
  refine V_invS C dX7_partsIn_15 (m_partsOf 304 8000 (400 * m) L hw hl4) ms_7_105 rfl (Nat.le_of_ble_eq_true rfl) ⟨Nat.le_of_ble_eq_true rfl, Nat.le_of_ble_eq_true rfl⟩ ⟨Nat.le_of_ble_eq_true rfl, Nat.le_of_ble_eq_true rfl⟩ (fun _ _ _ h => VT_no h) (fun v ad1 F1 hp => ?_)
  obtain ⟨rfl, rfl, rfl⟩ := hp
  exact V_ireturn C Q dX7_partsIn_18 rfl (Nat.le_of_ble_eq_true rfl) (Nat.le_of_ble_eq_true rfl) ⟨rfl, rfl, rfl⟩
theorem dl_new {u : St} {r life c : Nat} : dlF (nwS u r life) c = dlF u c := by
  unfold dlF
  show (if c / 10 < zMc u + 1 ∧ c % 10 < npL (va_up (zMs u) (zMc u) (zTxt u) (c / 10)) ∧ (va_up (zLk u) (zMc u) (2 ^ npL (zTxt u) - 1) (c / 10)).testBit (c % 10) = false then (1 : Int32) else 0) = _
  by_cases e : c / 10 = zMc u
  · rw [e, up_s, up_s, if_neg (show ¬ (zMc u < zMc u ∧ _) from fun h => Nat.lt_irrefl _ h.1)]
    rw [if_neg]
    rintro ⟨-, h2, h3⟩
    rw [Nat.testBit_two_pow_sub_one] at h3
    simp [h2] at h3
  · rw [up_n e, up_n e]
    by_cases e2 : c / 10 < zMc u
    · simp only [e2, show c / 10 < zMc u + 1 by omega]
    · rw [if_neg (fun h => by omega), if_neg (fun h => e2 h.1)]
theorem MRep.sub {D : Dx} {ad : Nat → Nat} {F G : Fn} {u : St} {th : Int32} {r life lk : Nat} (h : MRep D ad F u th) (hI : Inv u) (hmc : zMc u < 20) (el : lk = r % 3) (hO1 : mObj ad G (zNow u) 0 (zMc u + 1) (zRcp u).length th)
    (h4 : ∃ f : Nat → Int32, G 304 = some (aI D 8000 f) ∧ (∀ j, j < (zTxt u).length → f (400 * zMc u + j) = nI ((zTxt u).getD j 0)) ∧ ∀ m, m < zMc u → ∀ j, j < (zMs u m).length → f (400 * m + j) = nI ((zMs u m).getD j 0))
    (h5 : aN D G 305 20 (zMc u + 1) (fun k => nI (va_up (zMs u) (zMc u) (zTxt u) k).length)) (h6 : aN D G 306 20 (zMc u + 1) (fun k => nI (va_up (zRc u) (zMc u) r k))) (h7 : aN D G 307 20 (zMc u + 1) (fun k => nI (va_up (zEn u) (zMc u) (zNow u + life) k)))
    (h11 : ∃ f : Nat → Int32, G 311 = some (aI D 200 f) ∧ (∀ p, p < npL (zTxt u) → f (10 * zMc u + p) = nI (zNow u)) ∧ ∀ m, m < zMc u → ∀ p, p < npL (zMs u m) → f (10 * m + p) = nI (zPt u (100 + 10 * m + p)))
    (h13 : ∃ f : Nat → Int32, G 313 = some (aZ D 200 f) ∧ (∀ p, p < npL (zTxt u) → f (10 * zMc u + p) = nI 0) ∧ ∀ m, m < zMc u → ∀ p, p < npL (zMs u m) → f (10 * m + p) = nI (zPw u (100 + 10 * m + p)))
    (h15 : aN D G 315 3 3 (fun j => nI (va_up (fun j => zRw u (2 * j)) lk (zRw u (2 * lk) ++ nps (zMc u) (npL (zTxt u))) j).length)) (h16 : mRow D G 316 (va_up (fun j => zRw u (2 * j)) lk (zRw u (2 * lk) ++ nps (zMc u) (npL (zTxt u)))))
    (hK : ∀ x, x ∉ [300, 304, 305, 306, 307, 311, 313, 315, 316] → G x = F x) : MRep D ad G (nwS u r life) th := by
  obtain ⟨k0, k1, k2, k3, k4, k5, k6, k7, k8, k9, k10, k11, k12, k13, k14, k15, k16, k17, k18, k19, k20, k21, k22⟩ := h
  have hl4 := hI.2.2.1
  have hxs := hI.2.2.2.1
  have h6p := (npL_spec hl4).1
  obtain ⟨f4, e4, e41, e42⟩ := h4
  obtain ⟨f11, e11, e111, e112⟩ := h11
  obtain ⟨f13, e13, e131, e132⟩ := h13
  have c15 := h15.cg (g' := fun j => nI (zRw (nwS u r life) (2 * j)).length) (fun j _ => by show _ = nI (va_up (zRw u) (2 * (r % 3)) (zRw u (2 * (r % 3)) ++ nps (zMc u) (npL (zTxt u))) (2 * j)).length; rw [vq, el])
  have c16 := h16.cg (g' := fun j => zRw (nwS u r life) (2 * j)) (fun j _ => by show _ = va_up (zRw u) (2 * (r % 3)) (zRw u (2 * (r % 3)) ++ nps (zMc u) (npL (zTxt u))) (2 * j); rw [vq, el])
  have c17 := (k15.kept (hK _ (by decide))).cg (g' := fun j => nI (zRw (nwS u r life) (2 * j + 1)).length) (fun j _ => congrArg (fun L => nI (List.length L)) (up_n (by omega)).symm)
  have c18 := (k16.kept (hK _ (by decide))).cg (g' := fun j => zRw (nwS u r life) (2 * j + 1)) (fun j _ => (up_n (by omega)).symm)
  have c8 := (k7.kept (hK _ (by decide))).cg (g' := fun k => if k < zMc u + 1 then nI (va_up (zSt u) (zMc u) 0 k) else 0) (fun k _ => by
    show (if k < zMc u then nI (zSt u k) else 0) = (if k < zMc u + 1 then nI (va_up (zSt u) (zMc u) 0 k) else 0)
    by_cases e : k = zMc u
    · subst e; rw [if_neg (Nat.lt_irrefl _), if_pos (by omega), up_s]; rfl
    · rw [up_n e]
      by_cases e2 : k < zMc u
      · rw [if_pos e2, if_pos (by omega)]
      · rw [if_neg e2, if_neg (by omega)])
  have c12 := (k10.kept (hK _ (by decide))).cg (g' := fun c => if c / 10 < zMc u + 1 then nI (nwP (zMc u) 0 (zPf u) (100 + c)) else 0) (fun c _ => by
    show (if c / 10 < zMc u then nI (zPf u (100 + c)) else 0) = (if c / 10 < zMc u + 1 then nI (nwP (zMc u) 0 (zPf u) (100 + c)) else 0)
    unfold nwP
    by_cases e : c / 10 = zMc u
    · rw [if_neg (by omega), if_pos (by omega), if_pos (by omega)]; rfl
    · by_cases e2 : c / 10 < zMc u
      · rw [if_pos e2, if_pos (by omega), if_neg (by omega)]
      · rw [if_neg e2, if_neg (by omega)])
  have c14 := (k12.kept (hK _ (by decide))).cg (g' := dlF (nwS u r life)) (fun c _ => dl_new.symm)
  have c2 : ∀ m, m < zMc u + 1 → RwA D G 304 8000 (400 * m) (va_up (zMs u) (zMc u) (zTxt u) m) := fun m hm => by
    by_cases e : m = zMc u
    · subst e; rw [up_s]; exact ⟨by decide, by omega, hxs, f4, e4, e41⟩
    · rw [up_n e]
      have h := k2 m (by omega)
      exact ⟨h.1, h.2.1, h.2.2.1, f4, e4, e42 m (by omega)⟩
  have c9 : pN D G 311 (zMc u + 1) (va_up (zMs u) (zMc u) (zTxt u)) (nwP (zMc u) (zNow u) (zPt u)) := ⟨f11, e11, fun m hm p hp => by
    unfold nwP
    by_cases e : m = zMc u
    · subst e
      rw [up_s] at hp
      rw [if_pos (by omega)]; exact e111 p hp
    · rw [up_n e] at hp
      have h6q := (npL_spec (ms_len hI (show m < zMc u by omega))).1
      rw [if_neg (by omega)]; exact e112 m (by omega) p hp⟩
  have c11 : pB D G 313 (zMc u + 1) (va_up (zMs u) (zMc u) (zTxt u)) (nwP (zMc u) 0 (zPw u)) := ⟨f13, e13, fun m hm p hp => by
    unfold nwP
    by_cases e : m = zMc u
    · subst e
      rw [up_s] at hp
      rw [if_pos (by omega)]; exact e131 p hp
    · rw [up_n e] at hp
      have h6q := (npL_spec (ms_len hI (show m < zMc u by omega))).1
      rw [if_neg (by omega)]; exact e132 m (by omega) p hp⟩
  exact ⟨hO1, ⟨k1.1, (show 0 + 0 ≤ 400 by decide), fun x hx => absurd hx List.not_mem_nil, k1.2.2.2.imp fun f hf => ⟨(hK _ (by decide)).trans hf.1, fun j hj => absurd hj (Nat.not_lt_zero j)⟩⟩, c2, ⟨f4, e4⟩, h5, h6, h7, c8, k8.kept (hK _ (by decide)), c9, c12, c11, c14, c15, c16, c17, c18, k17.kept (hK _ (by decide)), k18.kept (hK _ (by decide)), k19.kept (hK _ (by decide)), k20.kept (hK _ (by decide)), k21.kept (hK _ (by decide)), k22.kept (hK _ (by decide))⟩
