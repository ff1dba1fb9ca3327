/-! ===== the law's own methods around the class's calls ===== -/
abbrev rW : Room := { frames := 10, cells := 13, slots := 900, locals := 400 }
/-- what a wrapper answers: which exception; what the class answered stands in the row at 400 -/
def PoW (D : Dx) (ad : Nat → Nat) (F : Fn) (r : Ans) : Pst := fun v ad1 F1 => v = some (.int (nI r.1)) ∧ CRep D ad1 F1 r.2.2 ∧ (∃ f : Nat → Int64, F1 400 = some (aJ D 1 f) ∧ (r.1 = 0 → f 0 = r.2.1.toInt64)) ∧ (∀ c, 300 ≤ c → ad1 c = ad c ∧ (c ≠ 400 → F1 c = F c)) ∧ ad1 0 = ad 0
theorem CRep.keptF {D : Dx} {ad : Nat → Nat} {F G : Fn} {s : St} (hC : CRep D ad F s) (hI : Inv s) (hK : ∀ c, c < 300 → G c = F c) : CRep D ad G s := by
  have hmc := hI.2.1
  exact ⟨hC.1.kept (hK _ (by omega)), TxtK hC.2.1 (hK _ (by omega)) (hK _ (by omega)) (hK _ (by omega)), hC.2.2.1.kept (hK _ (by omega)), hC.2.2.2.1.kept (hK _ (by omega)), hC.2.2.2.2.1.kept (hK _ (by omega)), hC.2.2.2.2.2.1.kept (hK _ (by omega)) (hK _ (by omega)) (hK _ (by omega)) (hK _ (by omega)), hC.2.2.2.2.2.2.1.kept (fun l hl => hK _ (by omega)), hC.2.2.2.2.2.2.2.1.kept (fun r hr => ⟨hK _ (by omega), hK _ (by omega)⟩), hC.2.2.2.2.2.2.2.2.1.kept (fun m hm => ⟨hK _ (by omega), hK _ (by omega), hK _ (by omega)⟩), hC.2.2.2.2.2.2.2.2.2.1.kept (fun m hm p hp => hK _ (by have := (npL_spec (ms_len hI hm)).1; omega)), hC.2.2.2.2.2.2.2.2.2.2.kept (fun c h1 h2 h => (hK c h2).trans h)⟩
/-- .. where the class answers nothing -/
def PoWv (D : Dx) (ad : Nat → Nat) (F : Fn) (r : Ans) : Pst := fun v ad1 F1 => v = some (.int (nI r.1)) ∧ CRep D ad1 F1 r.2.2 ∧ (∀ c, 300 ≤ c → ad1 c = ad c ∧ F1 c = F c) ∧ ad1 0 = ad 0
theorem tog01 (s : St) (a : Int32) : (spTog s a).2.1 = 0 ∨ (spTog s a).2.1 = 1 := by
  unfold spTog
  split
  · exact Or.inl rfl
  · split
    · exact Or.inr rfl
    · exact Or.inl rfl
set_option maxHeartbeats 400000 in
set_option maxRecDepth 100000 in
/-- the law: write -/
theorem w_write {l : Launch} {D : Dx} {b0 : Nat} {ad : Nat → Nat} {F : Fn} (s : St) (a b : Int32) (f0 : Nat → Int64) (hC : CRep D ad F s) (hI : Inv s) (h400 : F 400 = some (aJ D 1 f0)) (hI2 : Inv (spWrite s a b).2.2) : Ct l D b0 yL_write (wsH yL_write cL_write 5 (some .int) [(0, 10, 13, 13), (0, 10, 17, 15)]) rW [.ref (ad 0), .int a, .int b, .ref (ad 400)] ad F (PoW D ad F (spWrite s a b)) noX := by
  refine Ct.ofH (by decide +kernel) (by simp [Value.category]) (Nat.le_of_ble_eq_true rfl) (fun X eD eb el C Q => ?_)
  subst eD; subst eb; subst el
  have hM := hC.1
  unfold kMain at hM
  refine V_aload_n C dL_write_0 rfl ?_
  refine V_iconst (v := 0) C dL_write_1 rfl ?_
  refine V_aload_n C dL_write_2 rfl ?_
  refine V_iload_n C dL_write_3 rfl ?_
  refine V_iload_n C dL_write_4 rfl ?_
  refine V_invV C dL_write_5 hM rfl (c_write s a b hC hI) mv_L_7 rfl (Nat.le_of_ble_eq_true rfl) ⟨Nat.le_of_ble_eq_true rfl, Nat.le_of_ble_eq_true rfl⟩ ⟨Nat.le_of_ble_eq_true rfl, Nat.le_of_ble_eq_true rfl⟩ ?_ ?_
  · intro E ad1 F1 h
    obtain ⟨⟨i, hi, he⟩, hC1, hfk⟩ := h
    rcases i with _ | _ | i
    · have hE : eIAE = E := Option.some.inj he
      subst hE
      refine VT_catch [] ⟨0, 10, 13, 13⟩ [⟨0, 10, 17, 15⟩] C rfl (fun z hz => nomatch hz) rfl (by decide) cl_L_13 (List.mem_of_getElem? (i := 0) rfl) (fun q => ?_)
      refine V_astore C dL_write_13 (by decide) ?_
      refine V_iconst (v := 1) C dL_write_15 rfl ?_
      exact V_ireturn C Q dL_write_16 rfl (Nat.le_of_ble_eq_true rfl) (Nat.le_of_ble_eq_true rfl) ⟨by rw [hi]; rfl, hC1, ⟨f0, (hfk 400 (by decide)).2.trans h400, fun h => absurd h (by rw [hi]; exact Nat.succ_ne_zero _)⟩, fun c hc => ⟨hfk.ad hc, fun _ => (hfk c hc).2⟩, hfk.a0⟩
    · have hE : eISE = E := Option.some.inj he
      subst hE
      refine VT_catch [⟨0, 10, 13, 13⟩] ⟨0, 10, 17, 15⟩ [] C rfl (fun z hz => by
        simp only [List.mem_cons, List.not_mem_nil, or_false] at hz
        rcases hz with rfl
        · exact Or.inr ⟨by decide, "java/lang/IllegalArgumentException", cl_L_13, List.mem_of_getElem? (i := 0) rfl⟩
        ) rfl (by decide) cl_L_15 (List.mem_of_getElem? (i := 1) rfl) (fun q => ?_)
      refine V_astore C dL_write_17 (by decide) ?_
      refine V_iconst (v := 2) C dL_write_19 rfl ?_
      exact V_ireturn C Q dL_write_20 rfl (Nat.le_of_ble_eq_true rfl) (Nat.le_of_ble_eq_true rfl) ⟨by rw [hi]; rfl, hC1, ⟨f0, (hfk 400 (by decide)).2.trans h400, fun h => absurd h (by rw [hi]; exact Nat.succ_ne_zero _)⟩, fun c hc => ⟨hfk.ad hc, fun _ => (hfk c hc).2⟩, hfk.a0⟩
    · exact absurd he (by simp)
  intro v ad1 F1 hp
  obtain ⟨h0, rfl, hC1, hfk⟩ := hp
  have h400 := (hfk 400 (by decide)).2.trans h400
  rw [show ad 400 = ad1 400 from (hfk.ad (by decide)).symm]
  refine V_i2l C dL_write_8 rfl ?_
  refine G_last C dL_write_9 h400 (show (0 : Int32) = nI 0 from rfl) (by decide) (by decide) (fun F2 h400 hfr => ?_)
  refine V_goto (tgt := 21) C dL_write_10 (by decide) ?_
  refine V_iconst (v := 0) C dL_write_21 rfl ?_
  exact V_ireturn C Q dL_write_22 rfl (Nat.le_of_ble_eq_true rfl) (Nat.le_of_ble_eq_true rfl) ⟨by rw [h0]; rfl, hC1.keptF hI2 (fun c hc => hfr c (by omega)), ⟨_, h400, fun _ => rfl⟩, fun c hc => ⟨hfk.ad hc, fun hn => (hfr c hn).trans (hfk c hc).2⟩, hfk.a0⟩
set_option maxHeartbeats 400000 in
set_option maxRecDepth 100000 in
/-- the law: septets -/
theorem w_septets {l : Launch} {D : Dx} {b0 : Nat} {ad : Nat → Nat} {F : Fn} (s : St) (f0 : Nat → Int64) (hC : CRep D ad F s) (hI : Inv s) (h400 : F 400 = some (aJ D 1 f0)) (hI2 : Inv (spSept s).2.2) : Ct l D b0 yL_septets (wsH yL_septets cL_septets 3 (some .int) [(0, 8, 11, 15)]) rW [.ref (ad 0), .ref (ad 400)] ad F (PoW D ad F (spSept s)) noX := by
  refine Ct.ofH (by decide +kernel) (by simp [Value.category]) (Nat.le_of_ble_eq_true rfl) (fun X eD eb el C Q => ?_)
  subst eD; subst eb; subst el
  have hM := hC.1
  unfold kMain at hM
  refine V_aload_n C dL_septets_0 rfl ?_
  refine V_iconst (v := 0) C dL_septets_1 rfl ?_
  refine V_aload_n C dL_septets_2 rfl ?_
  refine V_invV C dL_septets_3 hM rfl (c_septets s hC hI) mv_L_17 rfl (Nat.le_of_ble_eq_true rfl) ⟨Nat.le_of_ble_eq_true rfl, Nat.le_of_ble_eq_true rfl⟩ ⟨Nat.le_of_ble_eq_true rfl, Nat.le_of_ble_eq_true rfl⟩ ?_ ?_
  · intro E ad1 F1 h
    obtain ⟨⟨i, hi, he⟩, hC1, hfk⟩ := h
    rcases i with _ | i
    · have hE : eISE = E := Option.some.inj he
      subst hE
      refine VT_catch [] ⟨0, 8, 11, 15⟩ [] C rfl (fun z hz => nomatch hz) rfl (by decide) cl_L_15 (List.mem_of_getElem? (i := 1) rfl) (fun q => ?_)
      refine V_astore_n C dL_septets_11 (by decide) ?_
      refine V_iconst (v := 1) C dL_septets_12 rfl ?_
      exact V_ireturn C Q dL_septets_13 rfl (Nat.le_of_ble_eq_true rfl) (Nat.le_of_ble_eq_true rfl) ⟨by rw [hi]; rfl, hC1, ⟨f0, (hfk 400 (by decide)).2.trans h400, fun h => absurd h (by rw [hi]; exact Nat.succ_ne_zero _)⟩, fun c hc => ⟨hfk.ad hc, fun _ => (hfk c hc).2⟩, hfk.a0⟩
    · exact absurd he (by simp)
  intro v ad1 F1 hp
  obtain ⟨h0, rfl, hC1, hfk⟩ := hp
  have h400 := (hfk 400 (by decide)).2.trans h400
  rw [show ad 400 = ad1 400 from (hfk.ad (by decide)).symm]
  refine V_i2l C dL_septets_6 rfl ?_
  refine G_last C dL_septets_7 h400 (show (0 : Int32) = nI 0 from rfl) (by decide) (by decide) (fun F2 h400 hfr => ?_)
  refine V_goto (tgt := 14) C dL_septets_8 (by decide) ?_
  refine V_iconst (v := 0) C dL_septets_14 rfl ?_
  exact V_ireturn C Q dL_septets_15 rfl (Nat.le_of_ble_eq_true rfl) (Nat.le_of_ble_eq_true rfl) ⟨by rw [h0]; rfl, hC1.keptF hI2 (fun c hc => hfr c (by omega)), ⟨_, h400, fun _ => rfl⟩, fun c hc => ⟨hfk.ad hc, fun hn => (hfr c hn).trans (hfk c hc).2⟩, hfk.a0⟩
set_option maxHeartbeats 400000 in
set_option maxRecDepth 100000 in
/-- the law: signs -/
theorem w_signs {l : Launch} {D : Dx} {b0 : Nat} {ad : Nat → Nat} {F : Fn} (s : St) (a : Int32) (f0 : Nat → Int64) (hC : CRep D ad F s) (hI : Inv s) (h400 : F 400 = some (aJ D 1 f0)) (hI2 : Inv (spSigns s a).2.2) : Ct l D b0 yL_signs (wsH yL_signs cL_signs 4 (some .int) [(0, 9, 12, 25)]) rW [.ref (ad 0), .int a, .ref (ad 400)] ad F (PoW D ad F (spSigns s a)) noX := by
  refine Ct.ofH (by decide +kernel) (by simp [Value.category]) (Nat.le_of_ble_eq_true rfl) (fun X eD eb el C Q => ?_)
  subst eD; subst eb; subst el
  have hM := hC.1
  unfold kMain at hM
  refine V_aload_n C dL_signs_0 rfl ?_
  refine V_iconst (v := 0) C dL_signs_1 rfl ?_
  refine V_aload_n C dL_signs_2 rfl ?_
  refine V_iload_n C dL_signs_3 rfl ?_
  refine V_invV C dL_signs_4 hM rfl (c_signs s a hC hI) mv_L_21 rfl (Nat.le_of_ble_eq_true rfl) ⟨Nat.le_of_ble_eq_true rfl, Nat.le_of_ble_eq_true rfl⟩ ⟨Nat.le_of_ble_eq_true rfl, Nat.le_of_ble_eq_true rfl⟩ ?_ ?_
  · intro E ad1 F1 h
    obtain ⟨⟨i, hi, he⟩, hC1, hfk⟩ := h
    rcases i with _ | i
    · have hE : eIOB = E := Option.some.inj he
      subst hE
      refine VT_catch [] ⟨0, 9, 12, 25⟩ [] C rfl (fun z hz => nomatch hz) rfl (by decide) cl_L_25 (List.mem_of_getElem? (i := 2) rfl) (fun q => ?_)
      refine V_astore_n C dL_signs_12 (by decide) ?_
      refine V_iconst (v := 1) C dL_signs_13 rfl ?_
      exact V_ireturn C Q dL_signs_14 rfl (Nat.le_of_ble_eq_true rfl) (Nat.le_of_ble_eq_true rfl) ⟨by rw [hi]; rfl, hC1, ⟨f0, (hfk 400 (by decide)).2.trans h400, fun h => absurd h (by rw [hi]; exact Nat.succ_ne_zero _)⟩, fun c hc => ⟨hfk.ad hc, fun _ => (hfk c hc).2⟩, hfk.a0⟩
    · exact absurd he (by simp)
  intro v ad1 F1 hp
  obtain ⟨h0, rfl, hC1, hfk⟩ := hp
  have h400 := (hfk 400 (by decide)).2.trans h400
  rw [show ad 400 = ad1 400 from (hfk.ad (by decide)).symm]
  refine V_i2l C dL_signs_7 rfl ?_
  refine G_last C dL_signs_8 h400 (show (0 : Int32) = nI 0 from rfl) (by decide) (by decide) (fun F2 h400 hfr => ?_)
  refine V_goto (tgt := 15) C dL_signs_9 (by decide) ?_
  refine V_iconst (v := 0) C dL_signs_15 rfl ?_
  exact V_ireturn C Q dL_signs_16 rfl (Nat.le_of_ble_eq_true rfl) (Nat.le_of_ble_eq_true rfl) ⟨by rw [h0]; rfl, hC1.keptF hI2 (fun c hc => hfr c (by omega)), ⟨_, h400, fun _ => rfl⟩, fun c hc => ⟨hfk.ad hc, fun hn => (hfr c hn).trans (hfk c hc).2⟩, hfk.a0⟩
set_option maxHeartbeats 400000 in
set_option maxRecDepth 100000 in
/-- the law: octets -/
theorem w_octets {l : Launch} {D : Dx} {b0 : Nat} {ad : Nat → Nat} {F : Fn} (s : St) (a : Int32) (f0 : Nat → Int64) (hC : CRep D ad F s) (hI : Inv s) (h400 : F 400 = some (aJ D 1 f0)) (hI2 : Inv (spOcts s a).2.2) : Ct l D b0 yL_octets (wsH yL_octets cL_octets 4 (some .int) [(0, 9, 12, 25)]) rW [.ref (ad 0), .int a, .ref (ad 400)] ad F (PoW D ad F (spOcts s a)) noX := by
  refine Ct.ofH (by decide +kernel) (by simp [Value.category]) (Nat.le_of_ble_eq_true rfl) (fun X eD eb el C Q => ?_)
  subst eD; subst eb; subst el
  have hM := hC.1
  unfold kMain at hM
  refine V_aload_n C dL_octets_0 rfl ?_
  refine V_iconst (v := 0) C dL_octets_1 rfl ?_
  refine V_aload_n C dL_octets_2 rfl ?_
  refine V_iload_n C dL_octets_3 rfl ?_
  refine V_invV C dL_octets_4 hM rfl (c_octets s a hC hI) mv_L_27 rfl (Nat.le_of_ble_eq_true rfl) ⟨Nat.le_of_ble_eq_true rfl, Nat.le_of_ble_eq_true rfl⟩ ⟨Nat.le_of_ble_eq_true rfl, Nat.le_of_ble_eq_true rfl⟩ ?_ ?_
  · intro E ad1 F1 h
    obtain ⟨⟨i, hi, he⟩, hC1, hfk⟩ := h
    rcases i with _ | i
    · have hE : eIOB = E := Option.some.inj he
      subst hE
      refine VT_catch [] ⟨0, 9, 12, 25⟩ [] C rfl (fun z hz => nomatch hz) rfl (by decide) cl_L_25 (List.mem_of_getElem? (i := 2) rfl) (fun q => ?_)
      refine V_astore_n C dL_octets_12 (by decide) ?_
      refine V_iconst (v := 1) C dL_octets_13 rfl ?_
      exact V_ireturn C Q dL_octets_14 rfl (Nat.le_of_ble_eq_true rfl) (Nat.le_of_ble_eq_true rfl) ⟨by rw [hi]; rfl, hC1, ⟨f0, (hfk 400 (by decide)).2.trans h400, fun h => absurd h (by rw [hi]; exact Nat.succ_ne_zero _)⟩, fun c hc => ⟨hfk.ad hc, fun _ => (hfk c hc).2⟩, hfk.a0⟩
    · exact absurd he (by simp)
  intro v ad1 F1 hp
  obtain ⟨h0, rfl, hC1, hfk⟩ := hp
  have h400 := (hfk 400 (by decide)).2.trans h400
  rw [show ad 400 = ad1 400 from (hfk.ad (by decide)).symm]
  refine V_i2l C dL_octets_7 rfl ?_
  refine G_last C dL_octets_8 h400 (show (0 : Int32) = nI 0 from rfl) (by decide) (by decide) (fun F2 h400 hfr => ?_)
  refine V_goto (tgt := 15) C dL_octets_9 (by decide) ?_
  refine V_iconst (v := 0) C dL_octets_15 rfl ?_
  exact V_ireturn C Q dL_octets_16 rfl (Nat.le_of_ble_eq_true rfl) (Nat.le_of_ble_eq_true rfl) ⟨by rw [h0]; rfl, hC1.keptF hI2 (fun c hc => hfr c (by omega)), ⟨_, h400, fun _ => rfl⟩, fun c hc => ⟨hfk.ad hc, fun hn => (hfr c hn).trans (hfk c hc).2⟩, hfk.a0⟩
set_option maxHeartbeats 400000 in
set_option maxRecDepth 100000 in
/-- the law: octet -/
theorem w_octet {l : Launch} {D : Dx} {b0 : Nat} {ad : Nat → Nat} {F : Fn} (s : St) (a b : Int32) (f0 : Nat → Int64) (hC : CRep D ad F s) (hI : Inv s) (h400 : F 400 = some (aJ D 1 f0)) (hI2 : Inv (spOct s a b).2.2) : Ct l D b0 yL_octet (wsH yL_octet cL_octet 5 (some .int) [(0, 10, 13, 25)]) rW [.ref (ad 0), .int a, .int b, .ref (ad 400)] ad F (PoW D ad F (spOct s a b)) noX := by
  refine Ct.ofH (by decide +kernel) (by simp [Value.category]) (Nat.le_of_ble_eq_true rfl) (fun X eD eb el C Q => ?_)
  subst eD; subst eb; subst el
  have hM := hC.1
  unfold kMain at hM
  refine V_aload_n C dL_octet_0 rfl ?_
  refine V_iconst (v := 0) C dL_octet_1 rfl ?_
  refine V_aload_n C dL_octet_2 rfl ?_
  refine V_iload_n C dL_octet_3 rfl ?_
  refine V_iload_n C dL_octet_4 rfl ?_
  refine V_invV C dL_octet_5 hM rfl (c_octet s a b hC hI) mv_L_30 rfl (Nat.le_of_ble_eq_true rfl) ⟨Nat.le_of_ble_eq_true rfl, Nat.le_of_ble_eq_true rfl⟩ ⟨Nat.le_of_ble_eq_true rfl, Nat.le_of_ble_eq_true rfl⟩ ?_ ?_
  · intro E ad1 F1 h
    obtain ⟨⟨i, hi, he⟩, hC1, hfk⟩ := h
    rcases i with _ | i
    · have hE : eIOB = E := Option.some.inj he
      subst hE
      refine VT_catch [] ⟨0, 10, 13, 25⟩ [] C rfl (fun z hz => nomatch hz) rfl (by decide) cl_L_25 (List.mem_of_getElem? (i := 2) rfl) (fun q => ?_)
      refine V_astore C dL_octet_13 (by decide) ?_
      refine V_iconst (v := 1) C dL_octet_15 rfl ?_
      exact V_ireturn C Q dL_octet_16 rfl (Nat.le_of_ble_eq_true rfl) (Nat.le_of_ble_eq_true rfl) ⟨by rw [hi]; rfl, hC1, ⟨f0, (hfk 400 (by decide)).2.trans h400, fun h => absurd h (by rw [hi]; exact Nat.succ_ne_zero _)⟩, fun c hc => ⟨hfk.ad hc, fun _ => (hfk c hc).2⟩, hfk.a0⟩
    · exact absurd he (by simp)
  intro v ad1 F1 hp
  obtain ⟨h0, rfl, hC1, hfk⟩ := hp
  have h400 := (hfk 400 (by decide)).2.trans h400
  rw [show ad 400 = ad1 400 from (hfk.ad (by decide)).symm]
  refine V_i2l C dL_octet_8 rfl ?_
  refine G_last C dL_octet_9 h400 (show (0 : Int32) = nI 0 from rfl) (by decide) (by decide) (fun F2 h400 hfr => ?_)
  refine V_goto (tgt := 17) C dL_octet_10 (by decide) ?_
  refine V_iconst (v := 0) C dL_octet_17 rfl ?_
  exact V_ireturn C Q dL_octet_18 rfl (Nat.le_of_ble_eq_true rfl) (Nat.le_of_ble_eq_true rfl) ⟨by rw [h0]; rfl, hC1.keptF hI2 (fun c hc => hfr c (by omega)), ⟨_, h400, fun _ => rfl⟩, fun c hc => ⟨hfk.ad hc, fun hn => (hfr c hn).trans (hfk c hc).2⟩, hfk.a0⟩
set_option maxHeartbeats 400000 in
set_option maxRecDepth 100000 in
/-- the law: submit -/
theorem w_submit {l : Launch} {D : Dx} {b0 : Nat} {ad : Nat → Nat} {F : Fn} (s : St) (a b : Int32) (f0 : Nat → Int64) (hC : CRep D ad F s) (hI : Inv s) (h400 : F 400 = some (aJ D 1 f0)) (hI2 : Inv (spSub s a b).2.2) : Ct l D b0 yL_submit (wsH yL_submit cL_submit 5 (some .int) [(0, 10, 13, 13), (0, 10, 17, 15)]) rW [.ref (ad 0), .int a, .int b, .ref (ad 400)] ad F (PoW D ad F (spSub s a b)) noX := by
  refine Ct.ofH (by decide +kernel) (by simp [Value.category]) (Nat.le_of_ble_eq_true rfl) (fun X eD eb el C Q => ?_)
  subst eD; subst eb; subst el
  have hM := hC.1
  unfold kMain at hM
  refine V_aload_n C dL_submit_0 rfl ?_
  refine V_iconst (v := 0) C dL_submit_1 rfl ?_
  refine V_aload_n C dL_submit_2 rfl ?_
  refine V_iload_n C dL_submit_3 rfl ?_
  refine V_iload_n C dL_submit_4 rfl ?_
  refine V_invV C dL_submit_5 hM rfl (c_submit s a b hC hI) mv_L_33 rfl (Nat.le_of_ble_eq_true rfl) ⟨Nat.le_of_ble_eq_true rfl, Nat.le_of_ble_eq_true rfl⟩ ⟨Nat.le_of_ble_eq_true rfl, Nat.le_of_ble_eq_true rfl⟩ ?_ ?_
  · intro E ad1 F1 h
    obtain ⟨⟨i, hi, he⟩, hC1, hfk⟩ := h
    rcases i with _ | _ | i
    · have hE : eIAE = E := Option.some.inj he
      subst hE
      refine VT_catch [] ⟨0, 10, 13, 13⟩ [⟨0, 10, 17, 15⟩] C rfl (fun z hz => nomatch hz) rfl (by decide) cl_L_13 (List.mem_of_getElem? (i := 0) rfl) (fun q => ?_)
      refine V_astore C dL_submit_13 (by decide) ?_
      refine V_iconst (v := 1) C dL_submit_15 rfl ?_
      exact V_ireturn C Q dL_submit_16 rfl (Nat.le_of_ble_eq_true rfl) (Nat.le_of_ble_eq_true rfl) ⟨by rw [hi]; rfl, hC1, ⟨f0, (hfk 400 (by decide)).2.trans h400, fun h => absurd h (by rw [hi]; exact Nat.succ_ne_zero _)⟩, fun c hc => ⟨hfk.ad hc, fun _ => (hfk c hc).2⟩, hfk.a0⟩
    · have hE : eISE = E := Option.some.inj he
      subst hE
      refine VT_catch [⟨0, 10, 13, 13⟩] ⟨0, 10, 17, 15⟩ [] C rfl (fun z hz => by
        simp only [List.mem_cons, List.not_mem_nil, or_false] at hz
        rcases hz with rfl
        · exact Or.inr ⟨by decide, "java/lang/IllegalArgumentException", cl_L_13, List.mem_of_getElem? (i := 0) rfl⟩
        ) rfl (by decide) cl_L_15 (List.mem_of_getElem? (i := 1) rfl) (fun q => ?_)
      refine V_astore C dL_submit_17 (by decide) ?_
      refine V_iconst (v := 2) C dL_submit_19 rfl ?_
      exact V_ireturn C Q dL_submit_20 rfl (Nat.le_of_ble_eq_true rfl) (Nat.le_of_ble_eq_true rfl) ⟨by rw [hi]; rfl, hC1, ⟨f0, (hfk 400 (by decide)).2.trans h400, fun h => absurd h (by rw [hi]; exact Nat.succ_ne_zero _)⟩, fun c hc => ⟨hfk.ad hc, fun _ => (hfk c hc).2⟩, hfk.a0⟩
    · exact absurd he (by simp)
  intro v ad1 F1 hp
  obtain ⟨h0, rfl, hC1, hfk⟩ := hp
  have h400 := (hfk 400 (by decide)).2.trans h400
  rw [show ad 400 = ad1 400 from (hfk.ad (by decide)).symm]
  refine V_i2l C dL_submit_8 rfl ?_
  refine G_last C dL_submit_9 h400 (show (0 : Int32) = nI 0 from rfl) (by decide) (by decide) (fun F2 h400 hfr => ?_)
  refine V_goto (tgt := 21) C dL_submit_10 (by decide) ?_
  refine V_iconst (v := 0) C dL_submit_21 rfl ?_
  exact V_ireturn C Q dL_submit_22 rfl (Nat.le_of_ble_eq_true rfl) (Nat.le_of_ble_eq_true rfl) ⟨by rw [h0]; rfl, hC1.keptF hI2 (fun c hc => hfr c (by omega)), ⟨_, h400, fun _ => rfl⟩, fun c hc => ⟨hfk.ad hc, fun hn => (hfr c hn).trans (hfk c hc).2⟩, hfk.a0⟩
set_option maxHeartbeats 400000 in
set_option maxRecDepth 100000 in
/-- the law: state -/
theorem w_state {l : Launch} {D : Dx} {b0 : Nat} {ad : Nat → Nat} {F : Fn} (s : St) (a : Int32) (f0 : Nat → Int64) (hC : CRep D ad F s) (hI : Inv s) (h400 : F 400 = some (aJ D 1 f0)) (hI2 : Inv (spState s a).2.2) : Ct l D b0 yL_state (wsH yL_state cL_state 4 (some .int) [(0, 9, 12, 25)]) rW [.ref (ad 0), .int a, .ref (ad 400)] ad F (PoW D ad F (spState s a)) noX := by
  refine Ct.ofH (by decide +kernel) (by simp [Value.category]) (Nat.le_of_ble_eq_true rfl) (fun X eD eb el C Q => ?_)
  subst eD; subst eb; subst el
  have hM := hC.1
  unfold kMain at hM
  refine V_aload_n C dL_state_0 rfl ?_
  refine V_iconst (v := 0) C dL_state_1 rfl ?_
  refine V_aload_n C dL_state_2 rfl ?_
  refine V_iload_n C dL_state_3 rfl ?_
  refine V_invV C dL_state_4 hM rfl (c_state s a hC hI) mv_L_36 rfl (Nat.le_of_ble_eq_true rfl) ⟨Nat.le_of_ble_eq_true rfl, Nat.le_of_ble_eq_true rfl⟩ ⟨Nat.le_of_ble_eq_true rfl, Nat.le_of_ble_eq_true rfl⟩ ?_ ?_
  · intro E ad1 F1 h
    obtain ⟨⟨i, hi, he⟩, hC1, hfk⟩ := h
    rcases i with _ | i
    · have hE : eIOB = E := Option.some.inj he
      subst hE
      refine VT_catch [] ⟨0, 9, 12, 25⟩ [] C rfl (fun z hz => nomatch hz) rfl (by decide) cl_L_25 (List.mem_of_getElem? (i := 2) rfl) (fun q => ?_)
      refine V_astore_n C dL_state_12 (by decide) ?_
      refine V_iconst (v := 1) C dL_state_13 rfl ?_
      exact V_ireturn C Q dL_state_14 rfl (Nat.le_of_ble_eq_true rfl) (Nat.le_of_ble_eq_true rfl) ⟨by rw [hi]; rfl, hC1, ⟨f0, (hfk 400 (by decide)).2.trans h400, fun h => absurd h (by rw [hi]; exact Nat.succ_ne_zero _)⟩, fun c hc => ⟨hfk.ad hc, fun _ => (hfk c hc).2⟩, hfk.a0⟩
    · exact absurd he (by simp)
  intro v ad1 F1 hp
  obtain ⟨h0, rfl, hC1, hfk⟩ := hp
  have h400 := (hfk 400 (by decide)).2.trans h400
  rw [show ad 400 = ad1 400 from (hfk.ad (by decide)).symm]
  refine V_i2l C dL_state_7 rfl ?_
  refine G_last C dL_state_8 h400 (show (0 : Int32) = nI 0 from rfl) (by decide) (by decide) (fun F2 h400 hfr => ?_)
  refine V_goto (tgt := 15) C dL_state_9 (by decide) ?_
  refine V_iconst (v := 0) C dL_state_15 rfl ?_
  exact V_ireturn C Q dL_state_16 rfl (Nat.le_of_ble_eq_true rfl) (Nat.le_of_ble_eq_true rfl) ⟨by rw [h0]; rfl, hC1.keptF hI2 (fun c hc => hfr c (by omega)), ⟨_, h400, fun _ => rfl⟩, fun c hc => ⟨hfk.ad hc, fun hn => (hfr c hn).trans (hfk c hc).2⟩, hfk.a0⟩
set_option maxHeartbeats 400000 in
set_option maxRecDepth 100000 in
/-- the law: missing -/
theorem w_missing {l : Launch} {D : Dx} {b0 : Nat} {ad : Nat → Nat} {F : Fn} (s : St) (a : Int32) (f0 : Nat → Int64) (hC : CRep D ad F s) (hI : Inv s) (h400 : F 400 = some (aJ D 1 f0)) (hI2 : Inv (spMiss s a).2.2) : Ct l D b0 yL_missing (wsH yL_missing cL_missing 4 (some .int) [(0, 9, 12, 25)]) rW [.ref (ad 0), .int a, .ref (ad 400)] ad F (PoW D ad F (spMiss s a)) noX := by
  refine Ct.ofH (by decide +kernel) (by simp [Value.category]) (Nat.le_of_ble_eq_true rfl) (fun X eD eb el C Q => ?_)
  subst eD; subst eb; subst el
  have hM := hC.1
  unfold kMain at hM
  refine V_aload_n C dL_missing_0 rfl ?_
  refine V_iconst (v := 0) C dL_missing_1 rfl ?_
  refine V_aload_n C dL_missing_2 rfl ?_
  refine V_iload_n C dL_missing_3 rfl ?_
  refine V_invV C dL_missing_4 hM rfl (c_missing s a hC hI) mv_L_39 rfl (Nat.le_of_ble_eq_true rfl) ⟨Nat.le_of_ble_eq_true rfl, Nat.le_of_ble_eq_true rfl⟩ ⟨Nat.le_of_ble_eq_true rfl, Nat.le_of_ble_eq_true rfl⟩ ?_ ?_
  · intro E ad1 F1 h
    obtain ⟨⟨i, hi, he⟩, hC1, hfk⟩ := h
    rcases i with _ | i
    · have hE : eIOB = E := Option.some.inj he
      subst hE
      refine VT_catch [] ⟨0, 9, 12, 25⟩ [] C rfl (fun z hz => nomatch hz) rfl (by decide) cl_L_25 (List.mem_of_getElem? (i := 2) rfl) (fun q => ?_)
      refine V_astore_n C dL_missing_12 (by decide) ?_
      refine V_iconst (v := 1) C dL_missing_13 rfl ?_
      exact V_ireturn C Q dL_missing_14 rfl (Nat.le_of_ble_eq_true rfl) (Nat.le_of_ble_eq_true rfl) ⟨by rw [hi]; rfl, hC1, ⟨f0, (hfk 400 (by decide)).2.trans h400, fun h => absurd h (by rw [hi]; exact Nat.succ_ne_zero _)⟩, fun c hc => ⟨hfk.ad hc, fun _ => (hfk c hc).2⟩, hfk.a0⟩
    · exact absurd he (by simp)
  intro v ad1 F1 hp
  obtain ⟨h0, rfl, hC1, hfk⟩ := hp
  have h400 := (hfk 400 (by decide)).2.trans h400
  rw [show ad 400 = ad1 400 from (hfk.ad (by decide)).symm]
  refine V_i2l C dL_missing_7 rfl ?_
  refine G_last C dL_missing_8 h400 (show (0 : Int32) = nI 0 from rfl) (by decide) (by decide) (fun F2 h400 hfr => ?_)
  refine V_goto (tgt := 15) C dL_missing_9 (by decide) ?_
  refine V_iconst (v := 0) C dL_missing_15 rfl ?_
  exact V_ireturn C Q dL_missing_16 rfl (Nat.le_of_ble_eq_true rfl) (Nat.le_of_ble_eq_true rfl) ⟨by rw [h0]; rfl, hC1.keptF hI2 (fun c hc => hfr c (by omega)), ⟨_, h400, fun _ => rfl⟩, fun c hc => ⟨hfk.ad hc, fun hn => (hfr c hn).trans (hfk c hc).2⟩, hfk.a0⟩
set_option maxHeartbeats 400000 in
set_option maxRecDepth 100000 in
/-- the law: joined -/
theorem w_joined {l : Launch} {D : Dx} {b0 : Nat} {ad : Nat → Nat} {F : Fn} (s : St) (a b : Int32) (f0 : Nat → Int64) (hC : CRep D ad F s) (hI : Inv s) (h400 : F 400 = some (aJ D 1 f0)) (hI2 : Inv (spJoin s a b).2.2) : Ct l D b0 yL_joined (wsH yL_joined cL_joined 5 (some .int) [(0, 10, 13, 25)]) rW [.ref (ad 0), .int a, .int b, .ref (ad 400)] ad F (PoW D ad F (spJoin s a b)) noX := by
  refine Ct.ofH (by decide +kernel) (by simp [Value.category]) (Nat.le_of_ble_eq_true rfl) (fun X eD eb el C Q => ?_)
  subst eD; subst eb; subst el
  have hM := hC.1
  unfold kMain at hM
  refine V_aload_n C dL_joined_0 rfl ?_
  refine V_iconst (v := 0) C dL_joined_1 rfl ?_
  refine V_aload_n C dL_joined_2 rfl ?_
  refine V_iload_n C dL_joined_3 rfl ?_
  refine V_iload_n C dL_joined_4 rfl ?_
  refine V_invV C dL_joined_5 hM rfl (c_joined s a b hC hI) mv_L_42 rfl (Nat.le_of_ble_eq_true rfl) ⟨Nat.le_of_ble_eq_true rfl, Nat.le_of_ble_eq_true rfl⟩ ⟨Nat.le_of_ble_eq_true rfl, Nat.le_of_ble_eq_true rfl⟩ ?_ ?_
  · intro E ad1 F1 h
    obtain ⟨⟨i, hi, he⟩, hC1, hfk⟩ := h
    rcases i with _ | i
    · have hE : eIOB = E := Option.some.inj he
      subst hE
      refine VT_catch [] ⟨0, 10, 13, 25⟩ [] C rfl (fun z hz => nomatch hz) rfl (by decide) cl_L_25 (List.mem_of_getElem? (i := 2) rfl) (fun q => ?_)
      refine V_astore C dL_joined_13 (by decide) ?_
      refine V_iconst (v := 1) C dL_joined_15 rfl ?_
      exact V_ireturn C Q dL_joined_16 rfl (Nat.le_of_ble_eq_true rfl) (Nat.le_of_ble_eq_true rfl) ⟨by rw [hi]; rfl, hC1, ⟨f0, (hfk 400 (by decide)).2.trans h400, fun h => absurd h (by rw [hi]; exact Nat.succ_ne_zero _)⟩, fun c hc => ⟨hfk.ad hc, fun _ => (hfk c hc).2⟩, hfk.a0⟩
    · exact absurd he (by simp)
  intro v ad1 F1 hp
  obtain ⟨h0, rfl, hC1, hfk⟩ := hp
  have h400 := (hfk 400 (by decide)).2.trans h400
  rw [show ad 400 = ad1 400 from (hfk.ad (by decide)).symm]
  refine V_i2l C dL_joined_8 rfl ?_
  refine G_last C dL_joined_9 h400 (show (0 : Int32) = nI 0 from rfl) (by decide) (by decide) (fun F2 h400 hfr => ?_)
  refine V_goto (tgt := 17) C dL_joined_10 (by decide) ?_
  refine V_iconst (v := 0) C dL_joined_17 rfl ?_
  exact V_ireturn C Q dL_joined_18 rfl (Nat.le_of_ble_eq_true rfl) (Nat.le_of_ble_eq_true rfl) ⟨by rw [h0]; rfl, hC1.keptF hI2 (fun c hc => hfr c (by omega)), ⟨_, h400, fun _ => rfl⟩, fun c hc => ⟨hfk.ad hc, fun hn => (hfr c hn).trans (hfk c hc).2⟩, hfk.a0⟩
set_option maxHeartbeats 400000 in
set_option maxRecDepth 100000 in
/-- the law: receipt -/
theorem w_receipt {l : Launch} {D : Dx} {b0 : Nat} {ad : Nat → Nat} {F : Fn} (s : St) (a : Int32) (f0 : Nat → Int64) (hC : CRep D ad F s) (hI : Inv s) (h400 : F 400 = some (aJ D 1 f0)) (hI2 : Inv (spRcp s a).2.2) : Ct l D b0 yL_receipt (wsH yL_receipt cL_receipt 4 (some .int) [(0, 9, 12, 25)]) rW [.ref (ad 0), .int a, .ref (ad 400)] ad F (PoW D ad F (spRcp s a)) noX := by
  refine Ct.ofH (by decide +kernel) (by simp [Value.category]) (Nat.le_of_ble_eq_true rfl) (fun X eD eb el C Q => ?_)
  subst eD; subst eb; subst el
  have hM := hC.1
  unfold kMain at hM
  refine V_aload_n C dL_receipt_0 rfl ?_
  refine V_iconst (v := 0) C dL_receipt_1 rfl ?_
  refine V_aload_n C dL_receipt_2 rfl ?_
  refine V_iload_n C dL_receipt_3 rfl ?_
  refine V_invV C dL_receipt_4 hM rfl (c_receipt s a hC hI) mv_L_45 rfl (Nat.le_of_ble_eq_true rfl) ⟨Nat.le_of_ble_eq_true rfl, Nat.le_of_ble_eq_true rfl⟩ ⟨Nat.le_of_ble_eq_true rfl, Nat.le_of_ble_eq_true rfl⟩ ?_ ?_
  · intro E ad1 F1 h
    obtain ⟨⟨i, hi, he⟩, hC1, hfk⟩ := h
    rcases i with _ | i
    · have hE : eIOB = E := Option.some.inj he
      subst hE
      refine VT_catch [] ⟨0, 9, 12, 25⟩ [] C rfl (fun z hz => nomatch hz) rfl (by decide) cl_L_25 (List.mem_of_getElem? (i := 2) rfl) (fun q => ?_)
      refine V_astore_n C dL_receipt_12 (by decide) ?_
      refine V_iconst (v := 1) C dL_receipt_13 rfl ?_
      exact V_ireturn C Q dL_receipt_14 rfl (Nat.le_of_ble_eq_true rfl) (Nat.le_of_ble_eq_true rfl) ⟨by rw [hi]; rfl, hC1, ⟨f0, (hfk 400 (by decide)).2.trans h400, fun h => absurd h (by rw [hi]; exact Nat.succ_ne_zero _)⟩, fun c hc => ⟨hfk.ad hc, fun _ => (hfk c hc).2⟩, hfk.a0⟩
    · exact absurd he (by simp)
  intro v ad1 F1 hp
  obtain ⟨h0, rfl, hC1, hfk⟩ := hp
  have h400 := (hfk 400 (by decide)).2.trans h400
  rw [show ad 400 = ad1 400 from (hfk.ad (by decide)).symm]
  refine V_i2l C dL_receipt_7 rfl ?_
  refine G_last C dL_receipt_8 h400 (show (0 : Int32) = nI 0 from rfl) (by decide) (by decide) (fun F2 h400 hfr => ?_)
  refine V_goto (tgt := 15) C dL_receipt_9 (by decide) ?_
  refine V_iconst (v := 0) C dL_receipt_15 rfl ?_
  exact V_ireturn C Q dL_receipt_16 rfl (Nat.le_of_ble_eq_true rfl) (Nat.le_of_ble_eq_true rfl) ⟨by rw [h0]; rfl, hC1.keptF hI2 (fun c hc => hfr c (by omega)), ⟨_, h400, fun _ => rfl⟩, fun c hc => ⟨hfk.ad hc, fun hn => (hfr c hn).trans (hfk c hc).2⟩, hfk.a0⟩
set_option maxHeartbeats 400000 in
set_option maxRecDepth 100000 in
/-- the law: pass -/
theorem w_pass {l : Launch} {D : Dx} {b0 : Nat} {ad : Nat → Nat} {F : Fn} (s : St) (a : Int32) (f0 : Nat → Int64) (hC : CRep D ad F s) (hI : Inv s) (hb : zNow s ≤ 190000) (h400 : F 400 = some (aJ D 1 f0)) (hI2 : Inv (spPass s a).2.2) : Ct l D b0 yL_pass (wsH yL_pass cL_pass 4 (some .int) [(0, 9, 12, 13)]) rW [.ref (ad 0), .int a, .ref (ad 400)] ad F (PoW D ad F (spPass s a)) noX := by
  refine Ct.ofH (by decide +kernel) (by simp [Value.category]) (Nat.le_of_ble_eq_true rfl) (fun X eD eb el C Q => ?_)
  subst eD; subst eb; subst el
  have hM := hC.1
  unfold kMain at hM
  refine V_aload_n C dL_pass_0 rfl ?_
  refine V_iconst (v := 0) C dL_pass_1 rfl ?_
  refine V_aload_n C dL_pass_2 rfl ?_
  refine V_iload_n C dL_pass_3 rfl ?_
  refine V_invV C dL_pass_4 hM rfl (c_pass s a hC hI hb) mv_L_48 rfl (Nat.le_of_ble_eq_true rfl) ⟨Nat.le_of_ble_eq_true rfl, Nat.le_of_ble_eq_true rfl⟩ ⟨Nat.le_of_ble_eq_true rfl, Nat.le_of_ble_eq_true rfl⟩ ?_ ?_
  · intro E ad1 F1 h
    obtain ⟨⟨i, hi, he⟩, hC1, hfk⟩ := h
    rcases i with _ | i
    · have hE : eIAE = E := Option.some.inj he
      subst hE
      refine VT_catch [] ⟨0, 9, 12, 13⟩ [] C rfl (fun z hz => nomatch hz) rfl (by decide) cl_L_13 (List.mem_of_getElem? (i := 0) rfl) (fun q => ?_)
      refine V_astore_n C dL_pass_12 (by decide) ?_
      refine V_iconst (v := 1) C dL_pass_13 rfl ?_
      exact V_ireturn C Q dL_pass_14 rfl (Nat.le_of_ble_eq_true rfl) (Nat.le_of_ble_eq_true rfl) ⟨by rw [hi]; rfl, hC1, ⟨f0, (hfk 400 (by decide)).2.trans h400, fun h => absurd h (by rw [hi]; exact Nat.succ_ne_zero _)⟩, fun c hc => ⟨hfk.ad hc, fun _ => (hfk c hc).2⟩, hfk.a0⟩
    · exact absurd he (by simp)
  intro v ad1 F1 hp
  obtain ⟨h0, rfl, hC1, hfk⟩ := hp
  have h400 := (hfk 400 (by decide)).2.trans h400
  rw [show ad 400 = ad1 400 from (hfk.ad (by decide)).symm]
  refine V_i2l C dL_pass_7 rfl ?_
  refine G_last C dL_pass_8 h400 (show (0 : Int32) = nI 0 from rfl) (by decide) (by decide) (fun F2 h400 hfr => ?_)
  refine V_goto (tgt := 15) C dL_pass_9 (by decide) ?_
  refine V_iconst (v := 0) C dL_pass_15 rfl ?_
  exact V_ireturn C Q dL_pass_16 rfl (Nat.le_of_ble_eq_true rfl) (Nat.le_of_ble_eq_true rfl) ⟨by rw [h0]; rfl, hC1.keptF hI2 (fun c hc => hfr c (by omega)), ⟨_, h400, fun _ => rfl⟩, fun c hc => ⟨hfk.ad hc, fun hn => (hfr c hn).trans (hfk c hc).2⟩, hfk.a0⟩
set_option maxHeartbeats 400000 in
set_option maxRecDepth 100000 in
/-- the law: toggleLink -/
theorem w_toggleLink {l : Launch} {D : Dx} {b0 : Nat} {ad : Nat → Nat} {F : Fn} (s : St) (a : Int32) (f0 : Nat → Int64) (hC : CRep D ad F s) (hI : Inv s) (h400 : F 400 = some (aJ D 1 f0)) (hI2 : Inv (spTog s a).2.2) : Ct l D b0 yL_toggleLink (wsH yL_toggleLink cL_toggleLink 4 (some .int) [(0, 16, 19, 25)]) rW [.ref (ad 0), .int a, .ref (ad 400)] ad F (PoW D ad F (spTog s a)) noX := by
  refine Ct.ofH (by decide +kernel) (by simp [Value.category]) (Nat.le_of_ble_eq_true rfl) (fun X eD eb el C Q => ?_)
  subst eD; subst eb; subst el
  have hM := hC.1
  unfold kMain at hM
  refine V_aload_n C dL_toggleLink_0 rfl ?_
  refine V_iconst (v := 0) C dL_toggleLink_1 rfl ?_
  refine V_aload_n C dL_toggleLink_2 rfl ?_
  refine V_iload_n C dL_toggleLink_3 rfl ?_
  refine V_invV C dL_toggleLink_4 hM rfl (c_toggleLink s a hC hI) mv_L_51 rfl (Nat.le_of_ble_eq_true rfl) ⟨Nat.le_of_ble_eq_true rfl, Nat.le_of_ble_eq_true rfl⟩ ⟨Nat.le_of_ble_eq_true rfl, Nat.le_of_ble_eq_true rfl⟩ ?_ ?_
  · intro E ad1 F1 h
    obtain ⟨⟨i, hi, he⟩, hC1, hfk⟩ := h
    rcases i with _ | i
    · have hE : eIOB = E := Option.some.inj he
      subst hE
      refine VT_catch [] ⟨0, 16, 19, 25⟩ [] C rfl (fun z hz => nomatch hz) rfl (by decide) cl_L_25 (List.mem_of_getElem? (i := 2) rfl) (fun q => ?_)
      refine V_astore_n C dL_toggleLink_19 (by decide) ?_
      refine V_iconst (v := 1) C dL_toggleLink_20 rfl ?_
      exact V_ireturn C Q dL_toggleLink_21 rfl (Nat.le_of_ble_eq_true rfl) (Nat.le_of_ble_eq_true rfl) ⟨by rw [hi]; rfl, hC1, ⟨f0, (hfk 400 (by decide)).2.trans h400, fun h => absurd h (by rw [hi]; exact Nat.succ_ne_zero _)⟩, fun c hc => ⟨hfk.ad hc, fun _ => (hfk c hc).2⟩, hfk.a0⟩
    · exact absurd he (by simp)
  intro v ad1 F1 hp
  obtain ⟨h0, rfl, hC1, hfk⟩ := hp
  have h400 := (hfk 400 (by decide)).2.trans h400
  rw [show ad 400 = ad1 400 from (hfk.ad (by decide)).symm]
  have h01 : (spTog s a).2.1 = 0 ∨ (spTog s a).2.1 = 1 := tog01 s a
  refine V_ifeq (tgt := 14) C dL_toggleLink_7 (by decide) (fun h1 => ?_) (fun h1 => ?_)
  · refine V_lconst C dL_toggleLink_14 rfl ?_
    refine G_last C dL_toggleLink_15 h400 (show (0 : Int32) = nI 0 from rfl) (by decide) (by decide) (fun F2 h400 hfr => ?_)
    refine V_goto (tgt := 22) C dL_toggleLink_16 (by decide) ?_
    refine V_iconst (v := 0) C dL_toggleLink_22 rfl ?_
    exact V_ireturn C Q dL_toggleLink_23 rfl (Nat.le_of_ble_eq_true rfl) (Nat.le_of_ble_eq_true rfl) ⟨by rw [h0]; rfl, hC1.keptF hI2 (fun c hc => hfr c (by omega)), ⟨_, h400, fun _ => by rw [h1]; rfl⟩, fun c hc => ⟨hfk.ad hc, fun hn => (hfr c hn).trans (hfk c hc).2⟩, hfk.a0⟩
  · refine V_lconst C dL_toggleLink_10 rfl ?_
    refine V_goto (tgt := 15) C dL_toggleLink_11 (by decide) ?_
    refine G_last C dL_toggleLink_15 h400 (show (0 : Int32) = nI 0 from rfl) (by decide) (by decide) (fun F2 h400 hfr => ?_)
    refine V_goto (tgt := 22) C dL_toggleLink_16 (by decide) ?_
    refine V_iconst (v := 0) C dL_toggleLink_22 rfl ?_
    exact V_ireturn C Q dL_toggleLink_23 rfl (Nat.le_of_ble_eq_true rfl) (Nat.le_of_ble_eq_true rfl) ⟨by rw [h0]; rfl, hC1.keptF hI2 (fun c hc => hfr c (by omega)), ⟨_, h400, fun _ => by rw [h01.resolve_left h1]; rfl⟩, fun c hc => ⟨hfk.ad hc, fun hn => (hfr c hn).trans (hfk c hc).2⟩, hfk.a0⟩
set_option maxHeartbeats 400000 in
set_option maxRecDepth 100000 in
/-- the law: setWindow -/
theorem w_setWindow {l : Launch} {D : Dx} {b0 : Nat} {ad : Nat → Nat} {F : Fn} (s : St) (a b : Int32) (f0 : Nat → Int64) (hC : CRep D ad F s) (hI : Inv s) (h400 : F 400 = some (aJ D 1 f0)) (hI2 : Inv (spSetW s a b).2.2) : Ct l D b0 yL_setWindow (wsH yL_setWindow cL_setWindow 5 (some .int) [(0, 10, 13, 25), (0, 10, 17, 13)]) rW [.ref (ad 0), .int a, .int b, .ref (ad 400)] ad F (PoW D ad F (spSetW s a b)) noX := by
  refine Ct.ofH (by decide +kernel) (by simp [Value.category]) (Nat.le_of_ble_eq_true rfl) (fun X eD eb el C Q => ?_)
  subst eD; subst eb; subst el
  have hM := hC.1
  unfold kMain at hM
  refine V_aload_n C dL_setWindow_0 rfl ?_
  refine V_iconst (v := 0) C dL_setWindow_1 rfl ?_
  refine V_aload_n C dL_setWindow_2 rfl ?_
  refine V_iload_n C dL_setWindow_3 rfl ?_
  refine V_iload_n C dL_setWindow_4 rfl ?_
  refine V_invV C dL_setWindow_5 hM rfl (c_setWindow s a b hC hI) mv_L_55 rfl (Nat.le_of_ble_eq_true rfl) ⟨Nat.le_of_ble_eq_true rfl, Nat.le_of_ble_eq_true rfl⟩ ⟨Nat.le_of_ble_eq_true rfl, Nat.le_of_ble_eq_true rfl⟩ ?_ ?_
  · intro E ad1 F1 h
    obtain ⟨⟨i, hi, he⟩, hC1, hfk⟩ := h
    rcases i with _ | _ | i
    · have hE : eIOB = E := Option.some.inj he
      subst hE
      refine VT_catch [] ⟨0, 10, 13, 25⟩ [⟨0, 10, 17, 13⟩] C rfl (fun z hz => nomatch hz) rfl (by decide) cl_L_25 (List.mem_of_getElem? (i := 2) rfl) (fun q => ?_)
      refine V_astore C dL_setWindow_13 (by decide) ?_
      refine V_iconst (v := 1) C dL_setWindow_15 rfl ?_
      exact V_ireturn C Q dL_setWindow_16 rfl (Nat.le_of_ble_eq_true rfl) (Nat.le_of_ble_eq_true rfl) ⟨by rw [hi]; rfl, hC1, ⟨f0, (hfk 400 (by decide)).2.trans h400, fun h => absurd h (by rw [hi]; exact Nat.succ_ne_zero _)⟩, fun c hc => ⟨hfk.ad hc, fun _ => (hfk c hc).2⟩, hfk.a0⟩
    · have hE : eIAE = E := Option.some.inj he
      subst hE
      refine VT_catch [⟨0, 10, 13, 25⟩] ⟨0, 10, 17, 13⟩ [] C rfl (fun z hz => by
        simp only [List.mem_cons, List.not_mem_nil, or_false] at hz
        rcases hz with rfl
        · exact Or.inr ⟨by decide, "java/lang/IndexOutOfBoundsException", cl_L_25, List.mem_of_getElem? (i := 1) rfl⟩
        ) rfl (by decide) cl_L_13 (List.mem_of_getElem? (i := 0) rfl) (fun q => ?_)
      refine V_astore C dL_setWindow_17 (by decide) ?_
      refine V_iconst (v := 2) C dL_setWindow_19 rfl ?_
      exact V_ireturn C Q dL_setWindow_20 rfl (Nat.le_of_ble_eq_true rfl) (Nat.le_of_ble_eq_true rfl) ⟨by rw [hi]; rfl, hC1, ⟨f0, (hfk 400 (by decide)).2.trans h400, fun h => absurd h (by rw [hi]; exact Nat.succ_ne_zero _)⟩, fun c hc => ⟨hfk.ad hc, fun _ => (hfk c hc).2⟩, hfk.a0⟩
    · exact absurd he (by simp)
  intro v ad1 F1 hp
  obtain ⟨h0, rfl, hC1, hfk⟩ := hp
  have h400 := (hfk 400 (by decide)).2.trans h400
  rw [show ad 400 = ad1 400 from (hfk.ad (by decide)).symm]
  refine V_i2l C dL_setWindow_8 rfl ?_
  refine G_last C dL_setWindow_9 h400 (show (0 : Int32) = nI 0 from rfl) (by decide) (by decide) (fun F2 h400 hfr => ?_)
  refine V_goto (tgt := 21) C dL_setWindow_10 (by decide) ?_
  refine V_iconst (v := 0) C dL_setWindow_21 rfl ?_
  exact V_ireturn C Q dL_setWindow_22 rfl (Nat.le_of_ble_eq_true rfl) (Nat.le_of_ble_eq_true rfl) ⟨by rw [h0]; rfl, hC1.keptF hI2 (fun c hc => hfr c (by omega)), ⟨_, h400, fun _ => rfl⟩, fun c hc => ⟨hfk.ad hc, fun hn => (hfr c hn).trans (hfk c hc).2⟩, hfk.a0⟩
set_option maxHeartbeats 400000 in
set_option maxRecDepth 100000 in
/-- the law: queued -/
theorem w_queued {l : Launch} {D : Dx} {b0 : Nat} {ad : Nat → Nat} {F : Fn} (s : St) (a : Int32) (f0 : Nat → Int64) (hC : CRep D ad F s) (hI : Inv s) (h400 : F 400 = some (aJ D 1 f0)) (hI2 : Inv (spQd s a).2.2) : Ct l D b0 yL_queued (wsH yL_queued cL_queued 4 (some .int) [(0, 9, 12, 25)]) rW [.ref (ad 0), .int a, .ref (ad 400)] ad F (PoW D ad F (spQd s a)) noX := by
  refine Ct.ofH (by decide +kernel) (by simp [Value.category]) (Nat.le_of_ble_eq_true rfl) (fun X eD eb el C Q => ?_)
  subst eD; subst eb; subst el
  have hM := hC.1
  unfold kMain at hM
  refine V_aload_n C dL_queued_0 rfl ?_
  refine V_iconst (v := 0) C dL_queued_1 rfl ?_
  refine V_aload_n C dL_queued_2 rfl ?_
  refine V_iload_n C dL_queued_3 rfl ?_
  refine V_invV C dL_queued_4 hM rfl (c_queued s a hC hI) mv_L_58 rfl (Nat.le_of_ble_eq_true rfl) ⟨Nat.le_of_ble_eq_true rfl, Nat.le_of_ble_eq_true rfl⟩ ⟨Nat.le_of_ble_eq_true rfl, Nat.le_of_ble_eq_true rfl⟩ ?_ ?_
  · intro E ad1 F1 h
    obtain ⟨⟨i, hi, he⟩, hC1, hfk⟩ := h
    rcases i with _ | i
    · have hE : eIOB = E := Option.some.inj he
      subst hE
      refine VT_catch [] ⟨0, 9, 12, 25⟩ [] C rfl (fun z hz => nomatch hz) rfl (by decide) cl_L_25 (List.mem_of_getElem? (i := 2) rfl) (fun q => ?_)
      refine V_astore_n C dL_queued_12 (by decide) ?_
      refine V_iconst (v := 1) C dL_queued_13 rfl ?_
      exact V_ireturn C Q dL_queued_14 rfl (Nat.le_of_ble_eq_true rfl) (Nat.le_of_ble_eq_true rfl) ⟨by rw [hi]; rfl, hC1, ⟨f0, (hfk 400 (by decide)).2.trans h400, fun h => absurd h (by rw [hi]; exact Nat.succ_ne_zero _)⟩, fun c hc => ⟨hfk.ad hc, fun _ => (hfk c hc).2⟩, hfk.a0⟩
    · exact absurd he (by simp)
  intro v ad1 F1 hp
  obtain ⟨h0, rfl, hC1, hfk⟩ := hp
  have h400 := (hfk 400 (by decide)).2.trans h400
  rw [show ad 400 = ad1 400 from (hfk.ad (by decide)).symm]
  refine V_i2l C dL_queued_7 rfl ?_
  refine G_last C dL_queued_8 h400 (show (0 : Int32) = nI 0 from rfl) (by decide) (by decide) (fun F2 h400 hfr => ?_)
  refine V_goto (tgt := 15) C dL_queued_9 (by decide) ?_
  refine V_iconst (v := 0) C dL_queued_15 rfl ?_
  exact V_ireturn C Q dL_queued_16 rfl (Nat.le_of_ble_eq_true rfl) (Nat.le_of_ble_eq_true rfl) ⟨by rw [h0]; rfl, hC1.keptF hI2 (fun c hc => hfr c (by omega)), ⟨_, h400, fun _ => rfl⟩, fun c hc => ⟨hfk.ad hc, fun hn => (hfr c hn).trans (hfk c hc).2⟩, hfk.a0⟩
set_option maxHeartbeats 400000 in
set_option maxRecDepth 100000 in
/-- the law: underWay -/
theorem w_underWay {l : Launch} {D : Dx} {b0 : Nat} {ad : Nat → Nat} {F : Fn} (s : St) (a : Int32) (f0 : Nat → Int64) (hC : CRep D ad F s) (hI : Inv s) (h400 : F 400 = some (aJ D 1 f0)) (hI2 : Inv (spUw s a).2.2) : Ct l D b0 yL_underWay (wsH yL_underWay cL_underWay 4 (some .int) [(0, 9, 12, 25)]) rW [.ref (ad 0), .int a, .ref (ad 400)] ad F (PoW D ad F (spUw s a)) noX := by
  refine Ct.ofH (by decide +kernel) (by simp [Value.category]) (Nat.le_of_ble_eq_true rfl) (fun X eD eb el C Q => ?_)
  subst eD; subst eb; subst el
  have hM := hC.1
  unfold kMain at hM
  refine V_aload_n C dL_underWay_0 rfl ?_
  refine V_iconst (v := 0) C dL_underWay_1 rfl ?_
  refine V_aload_n C dL_underWay_2 rfl ?_
  refine V_iload_n C dL_underWay_3 rfl ?_
  refine V_invV C dL_underWay_4 hM rfl (c_underWay s a hC hI) mv_L_61 rfl (Nat.le_of_ble_eq_true rfl) ⟨Nat.le_of_ble_eq_true rfl, Nat.le_of_ble_eq_true rfl⟩ ⟨Nat.le_of_ble_eq_true rfl, Nat.le_of_ble_eq_true rfl⟩ ?_ ?_
  · intro E ad1 F1 h
    obtain ⟨⟨i, hi, he⟩, hC1, hfk⟩ := h
    rcases i with _ | i
    · have hE : eIOB = E := Option.some.inj he
      subst hE
      refine VT_catch [] ⟨0, 9, 12, 25⟩ [] C rfl (fun z hz => nomatch hz) rfl (by decide) cl_L_25 (List.mem_of_getElem? (i := 2) rfl) (fun q => ?_)
      refine V_astore_n C dL_underWay_12 (by decide) ?_
      refine V_iconst (v := 1) C dL_underWay_13 rfl ?_
      exact V_ireturn C Q dL_underWay_14 rfl (Nat.le_of_ble_eq_true rfl) (Nat.le_of_ble_eq_true rfl) ⟨by rw [hi]; rfl, hC1, ⟨f0, (hfk 400 (by decide)).2.trans h400, fun h => absurd h (by rw [hi]; exact Nat.succ_ne_zero _)⟩, fun c hc => ⟨hfk.ad hc, fun _ => (hfk c hc).2⟩, hfk.a0⟩
    · exact absurd he (by simp)
  intro v ad1 F1 hp
  obtain ⟨h0, rfl, hC1, hfk⟩ := hp
  have h400 := (hfk 400 (by decide)).2.trans h400
  rw [show ad 400 = ad1 400 from (hfk.ad (by decide)).symm]
  refine V_i2l C dL_underWay_7 rfl ?_
  refine G_last C dL_underWay_8 h400 (show (0 : Int32) = nI 0 from rfl) (by decide) (by decide) (fun F2 h400 hfr => ?_)
  refine V_goto (tgt := 15) C dL_underWay_9 (by decide) ?_
  refine V_iconst (v := 0) C dL_underWay_15 rfl ?_
  exact V_ireturn C Q dL_underWay_16 rfl (Nat.le_of_ble_eq_true rfl) (Nat.le_of_ble_eq_true rfl) ⟨by rw [h0]; rfl, hC1.keptF hI2 (fun c hc => hfr c (by omega)), ⟨_, h400, fun _ => rfl⟩, fun c hc => ⟨hfk.ad hc, fun hn => (hfr c hn).trans (hfk c hc).2⟩, hfk.a0⟩
set_option maxHeartbeats 400000 in
set_option maxRecDepth 100000 in
/-- the law: tokens -/
theorem w_tokens {l : Launch} {D : Dx} {b0 : Nat} {ad : Nat → Nat} {F : Fn} (s : St) (a : Int32) (f0 : Nat → Int64) (hC : CRep D ad F s) (hI : Inv s) (h400 : F 400 = some (aJ D 1 f0)) (hI2 : Inv (spTok s a).2.2) : Ct l D b0 yL_tokens (wsH yL_tokens cL_tokens 4 (some .int) [(0, 9, 12, 25)]) rW [.ref (ad 0), .int a, .ref (ad 400)] ad F (PoW D ad F (spTok s a)) noX := by
  refine Ct.ofH (by decide +kernel) (by simp [Value.category]) (Nat.le_of_ble_eq_true rfl) (fun X eD eb el C Q => ?_)
  subst eD; subst eb; subst el
  have hM := hC.1
  unfold kMain at hM
  refine V_aload_n C dL_tokens_0 rfl ?_
  refine V_iconst (v := 0) C dL_tokens_1 rfl ?_
  refine V_aload_n C dL_tokens_2 rfl ?_
  refine V_iload_n C dL_tokens_3 rfl ?_
  refine V_invV C dL_tokens_4 hM rfl (c_tokens s a hC hI) mv_L_64 rfl (Nat.le_of_ble_eq_true rfl) ⟨Nat.le_of_ble_eq_true rfl, Nat.le_of_ble_eq_true rfl⟩ ⟨Nat.le_of_ble_eq_true rfl, Nat.le_of_ble_eq_true rfl⟩ ?_ ?_
  · intro E ad1 F1 h
    obtain ⟨⟨i, hi, he⟩, hC1, hfk⟩ := h
    rcases i with _ | i
    · have hE : eIOB = E := Option.some.inj he
      subst hE
      refine VT_catch [] ⟨0, 9, 12, 25⟩ [] C rfl (fun z hz => nomatch hz) rfl (by decide) cl_L_25 (List.mem_of_getElem? (i := 2) rfl) (fun q => ?_)
      refine V_astore_n C dL_tokens_12 (by decide) ?_
      refine V_iconst (v := 1) C dL_tokens_13 rfl ?_
      exact V_ireturn C Q dL_tokens_14 rfl (Nat.le_of_ble_eq_true rfl) (Nat.le_of_ble_eq_true rfl) ⟨by rw [hi]; rfl, hC1, ⟨f0, (hfk 400 (by decide)).2.trans h400, fun h => absurd h (by rw [hi]; exact Nat.succ_ne_zero _)⟩, fun c hc => ⟨hfk.ad hc, fun _ => (hfk c hc).2⟩, hfk.a0⟩
    · exact absurd he (by simp)
  intro v ad1 F1 hp
  obtain ⟨h0, rfl, hC1, hfk⟩ := hp
  have h400 := (hfk 400 (by decide)).2.trans h400
  rw [show ad 400 = ad1 400 from (hfk.ad (by decide)).symm]
  refine V_i2l C dL_tokens_7 rfl ?_
  refine G_last C dL_tokens_8 h400 (show (0 : Int32) = nI 0 from rfl) (by decide) (by decide) (fun F2 h400 hfr => ?_)
  refine V_goto (tgt := 15) C dL_tokens_9 (by decide) ?_
  refine V_iconst (v := 0) C dL_tokens_15 rfl ?_
  exact V_ireturn C Q dL_tokens_16 rfl (Nat.le_of_ble_eq_true rfl) (Nat.le_of_ble_eq_true rfl) ⟨by rw [h0]; rfl, hC1.keptF hI2 (fun c hc => hfr c (by omega)), ⟨_, h400, fun _ => rfl⟩, fun c hc => ⟨hfk.ad hc, fun hn => (hfr c hn).trans (hfk c hc).2⟩, hfk.a0⟩
set_option maxHeartbeats 400000 in
set_option maxRecDepth 100000 in
/-- the law: acknowledge -/
theorem w_acknowledge {l : Launch} {D : Dx} {b0 : Nat} {ad : Nat → Nat} {F : Fn} (s : St) (a b : Int32) (f0 : Nat → Int64) (hC : CRep D ad F s) (hI : Inv s) (hF : Inf s) (h400 : F 400 = some (aJ D 1 f0)) (hI2 : Inv (spAck s a b).2.2) : Ct l D b0 yL_acknowledge (wsH yL_acknowledge cL_acknowledge 5 (some .int) [(0, 10, 13, 25), (0, 10, 17, 13), (0, 10, 21, 15)]) rW [.ref (ad 0), .int a, .int b, .ref (ad 400)] ad F (PoW D ad F (spAck s a b)) noX := by
  refine Ct.ofH (by decide +kernel) (by simp [Value.category]) (Nat.le_of_ble_eq_true rfl) (fun X eD eb el C Q => ?_)
  subst eD; subst eb; subst el
  have hM := hC.1
  unfold kMain at hM
  refine V_aload_n C dL_acknowledge_0 rfl ?_
  refine V_iconst (v := 0) C dL_acknowledge_1 rfl ?_
  refine V_aload_n C dL_acknowledge_2 rfl ?_
  refine V_iload_n C dL_acknowledge_3 rfl ?_
  refine V_iload_n C dL_acknowledge_4 rfl ?_
  refine V_invV C dL_acknowledge_5 hM rfl (c_acknowledge s a b hC hI hF) mv_L_67 rfl (Nat.le_of_ble_eq_true rfl) ⟨Nat.le_of_ble_eq_true rfl, Nat.le_of_ble_eq_true rfl⟩ ⟨Nat.le_of_ble_eq_true rfl, Nat.le_of_ble_eq_true rfl⟩ ?_ ?_
  · intro E ad1 F1 h
    obtain ⟨⟨i, hi, he⟩, hC1, hfk⟩ := h
    rcases i with _ | _ | _ | i
    · have hE : eIOB = E := Option.some.inj he
      subst hE
      refine VT_catch [] ⟨0, 10, 13, 25⟩ [⟨0, 10, 17, 13⟩, ⟨0, 10, 21, 15⟩] C rfl (fun z hz => nomatch hz) rfl (by decide) cl_L_25 (List.mem_of_getElem? (i := 2) rfl) (fun q => ?_)
      refine V_astore C dL_acknowledge_13 (by decide) ?_
      refine V_iconst (v := 1) C dL_acknowledge_15 rfl ?_
      exact V_ireturn C Q dL_acknowledge_16 rfl (Nat.le_of_ble_eq_true rfl) (Nat.le_of_ble_eq_true rfl) ⟨by rw [hi]; rfl, hC1, ⟨f0, (hfk 400 (by decide)).2.trans h400, fun h => absurd h (by rw [hi]; exact Nat.succ_ne_zero _)⟩, fun c hc => ⟨hfk.ad hc, fun _ => (hfk c hc).2⟩, hfk.a0⟩
    · have hE : eIAE = E := Option.some.inj he
      subst hE
      refine VT_catch [⟨0, 10, 13, 25⟩] ⟨0, 10, 17, 13⟩ [⟨0, 10, 21, 15⟩] C rfl (fun z hz => by
        simp only [List.mem_cons, List.not_mem_nil, or_false] at hz
        rcases hz with rfl
        · exact Or.inr ⟨by decide, "java/lang/IndexOutOfBoundsException", cl_L_25, List.mem_of_getElem? (i := 1) rfl⟩
        ) rfl (by decide) cl_L_13 (List.mem_of_getElem? (i := 0) rfl) (fun q => ?_)
      refine V_astore C dL_acknowledge_17 (by decide) ?_
      refine V_iconst (v := 2) C dL_acknowledge_19 rfl ?_
      exact V_ireturn C Q dL_acknowledge_20 rfl (Nat.le_of_ble_eq_true rfl) (Nat.le_of_ble_eq_true rfl) ⟨by rw [hi]; rfl, hC1, ⟨f0, (hfk 400 (by decide)).2.trans h400, fun h => absurd h (by rw [hi]; exact Nat.succ_ne_zero _)⟩, fun c hc => ⟨hfk.ad hc, fun _ => (hfk c hc).2⟩, hfk.a0⟩
    · have hE : eISE = E := Option.some.inj he
      subst hE
      refine VT_catch [⟨0, 10, 13, 25⟩, ⟨0, 10, 17, 13⟩] ⟨0, 10, 21, 15⟩ [] C rfl (fun z hz => by
        simp only [List.mem_cons, List.not_mem_nil, or_false] at hz
        rcases hz with rfl | rfl
        · exact Or.inr ⟨by decide, "java/lang/IndexOutOfBoundsException", cl_L_25, List.mem_of_getElem? (i := 2) rfl⟩
        · exact Or.inr ⟨by decide, "java/lang/IllegalArgumentException", cl_L_13, List.mem_of_getElem? (i := 0) rfl⟩
        ) rfl (by decide) cl_L_15 (List.mem_of_getElem? (i := 1) rfl) (fun q => ?_)
      refine V_astore C dL_acknowledge_21 (by decide) ?_
      refine V_iconst (v := 3) C dL_acknowledge_23 rfl ?_
      exact V_ireturn C Q dL_acknowledge_24 rfl (Nat.le_of_ble_eq_true rfl) (Nat.le_of_ble_eq_true rfl) ⟨by rw [hi]; rfl, hC1, ⟨f0, (hfk 400 (by decide)).2.trans h400, fun h => absurd h (by rw [hi]; exact Nat.succ_ne_zero _)⟩, fun c hc => ⟨hfk.ad hc, fun _ => (hfk c hc).2⟩, hfk.a0⟩
    · exact absurd he (by simp)
  intro v ad1 F1 hp
  obtain ⟨h0, rfl, hC1, hfk⟩ := hp
  have h400 := (hfk 400 (by decide)).2.trans h400
  rw [show ad 400 = ad1 400 from (hfk.ad (by decide)).symm]
  refine V_i2l C dL_acknowledge_8 rfl ?_
  refine G_last C dL_acknowledge_9 h400 (show (0 : Int32) = nI 0 from rfl) (by decide) (by decide) (fun F2 h400 hfr => ?_)
  refine V_goto (tgt := 25) C dL_acknowledge_10 (by decide) ?_
  refine V_iconst (v := 0) C dL_acknowledge_25 rfl ?_
  exact V_ireturn C Q dL_acknowledge_26 rfl (Nat.le_of_ble_eq_true rfl) (Nat.le_of_ble_eq_true rfl) ⟨by rw [h0]; rfl, hC1.keptF hI2 (fun c hc => hfr c (by omega)), ⟨_, h400, fun _ => rfl⟩, fun c hc => ⟨hfk.ad hc, fun hn => (hfr c hn).trans (hfk c hc).2⟩, hfk.a0⟩
set_option maxHeartbeats 400000 in
set_option maxRecDepth 100000 in
/-- the law: alert -/
theorem w_alert {l : Launch} {D : Dx} {b0 : Nat} {ad : Nat → Nat} {F : Fn} (s : St) (a : Int32) (f0 : Nat → Int64) (hC : CRep D ad F s) (hI : Inv s) (h400 : F 400 = some (aJ D 1 f0)) (hI2 : Inv (spAlert s a).2.2) : Ct l D b0 yL_alert (wsH yL_alert cL_alert 4 (some .int) [(0, 9, 12, 13)]) rW [.ref (ad 0), .int a, .ref (ad 400)] ad F (PoW D ad F (spAlert s a)) noX := by
  refine Ct.ofH (by decide +kernel) (by simp [Value.category]) (Nat.le_of_ble_eq_true rfl) (fun X eD eb el C Q => ?_)
  subst eD; subst eb; subst el
  have hM := hC.1
  unfold kMain at hM
  refine V_aload_n C dL_alert_0 rfl ?_
  refine V_iconst (v := 0) C dL_alert_1 rfl ?_
  refine V_aload_n C dL_alert_2 rfl ?_
  refine V_iload_n C dL_alert_3 rfl ?_
  refine V_invV C dL_alert_4 hM rfl (c_alert s a hC hI) mv_L_70 rfl (Nat.le_of_ble_eq_true rfl) ⟨Nat.le_of_ble_eq_true rfl, Nat.le_of_ble_eq_true rfl⟩ ⟨Nat.le_of_ble_eq_true rfl, Nat.le_of_ble_eq_true rfl⟩ ?_ ?_
  · intro E ad1 F1 h
    obtain ⟨⟨i, hi, he⟩, hC1, hfk⟩ := h
    rcases i with _ | i
    · have hE : eIAE = E := Option.some.inj he
      subst hE
      refine VT_catch [] ⟨0, 9, 12, 13⟩ [] C rfl (fun z hz => nomatch hz) rfl (by decide) cl_L_13 (List.mem_of_getElem? (i := 0) rfl) (fun q => ?_)
      refine V_astore_n C dL_alert_12 (by decide) ?_
      refine V_iconst (v := 1) C dL_alert_13 rfl ?_
      exact V_ireturn C Q dL_alert_14 rfl (Nat.le_of_ble_eq_true rfl) (Nat.le_of_ble_eq_true rfl) ⟨by rw [hi]; rfl, hC1, ⟨f0, (hfk 400 (by decide)).2.trans h400, fun h => absurd h (by rw [hi]; exact Nat.succ_ne_zero _)⟩, fun c hc => ⟨hfk.ad hc, fun _ => (hfk c hc).2⟩, hfk.a0⟩
    · exact absurd he (by simp)
  intro v ad1 F1 hp
  obtain ⟨h0, rfl, hC1, hfk⟩ := hp
  have h400 := (hfk 400 (by decide)).2.trans h400
  rw [show ad 400 = ad1 400 from (hfk.ad (by decide)).symm]
  refine V_i2l C dL_alert_7 rfl ?_
  refine G_last C dL_alert_8 h400 (show (0 : Int32) = nI 0 from rfl) (by decide) (by decide) (fun F2 h400 hfr => ?_)
  refine V_goto (tgt := 15) C dL_alert_9 (by decide) ?_
  refine V_iconst (v := 0) C dL_alert_15 rfl ?_
  exact V_ireturn C Q dL_alert_16 rfl (Nat.le_of_ble_eq_true rfl) (Nat.le_of_ble_eq_true rfl) ⟨by rw [h0]; rfl, hC1.keptF hI2 (fun c hc => hfr c (by omega)), ⟨_, h400, fun _ => rfl⟩, fun c hc => ⟨hfk.ad hc, fun hn => (hfr c hn).trans (hfk c hc).2⟩, hfk.a0⟩
set_option maxHeartbeats 400000 in
set_option maxRecDepth 100000 in
/-- the law: setKeyword -/
theorem w_setKeyword {l : Launch} {D : Dx} {b0 : Nat} {ad : Nat → Nat} {F : Fn} (s : St) (a b : Int32)  (hC : CRep D ad F s) (hI : Inv s) : Ct l D b0 yL_setKeyword (wsH yL_setKeyword cL_setKeyword 4 (some .int) [(0, 6, 9, 13)]) rW [.ref (ad 0), .int a, .int b] ad F (PoWv D ad F (spKey s a b)) noX := by
  refine Ct.ofH (by decide +kernel) (by simp [Value.category]) (Nat.le_of_ble_eq_true rfl) (fun X eD eb el C Q => ?_)
  subst eD; subst eb; subst el
  have hM := hC.1
  unfold kMain at hM
  refine V_aload_n C dL_setKeyword_0 rfl ?_
  refine V_iload_n C dL_setKeyword_1 rfl ?_
  refine V_iload_n C dL_setKeyword_2 rfl ?_
  refine V_invV C dL_setKeyword_3 hM rfl (c_setKeyword s a b hC hI) mv_L_73 rfl (Nat.le_of_ble_eq_true rfl) ⟨Nat.le_of_ble_eq_true rfl, Nat.le_of_ble_eq_true rfl⟩ ⟨Nat.le_of_ble_eq_true rfl, Nat.le_of_ble_eq_true rfl⟩ ?_ ?_
  · intro E ad1 F1 h
    obtain ⟨⟨i, hi, he⟩, hC1, hfk⟩ := h
    rcases i with _ | i
    · have hE : eIAE = E := Option.some.inj he
      subst hE
      refine VT_catch [] ⟨0, 6, 9, 13⟩ [] C rfl (fun z hz => nomatch hz) rfl (by decide) cl_L_13 (List.mem_of_getElem? (i := 0) rfl) (fun q => ?_)
      refine V_astore_n C dL_setKeyword_9 (by decide) ?_
      refine V_iconst (v := 1) C dL_setKeyword_10 rfl ?_
      exact V_ireturn C Q dL_setKeyword_11 rfl (Nat.le_of_ble_eq_true rfl) (Nat.le_of_ble_eq_true rfl) ⟨by rw [hi]; rfl, hC1, fun c hc => ⟨hfk.ad hc, (hfk c hc).2⟩, hfk.a0⟩
    · exact absurd he (by simp)
  intro v ad1 F1 hp
  obtain ⟨h0, rfl, hC1, hfk⟩ := hp
  refine V_goto (tgt := 12) C dL_setKeyword_6 (by decide) ?_
  refine V_iconst (v := 0) C dL_setKeyword_12 rfl ?_
  exact V_ireturn C Q dL_setKeyword_13 rfl (Nat.le_of_ble_eq_true rfl) (Nat.le_of_ble_eq_true rfl) ⟨by rw [h0]; rfl, hC1, fun c hc => ⟨hfk.ad hc, (hfk c hc).2⟩, hfk.a0⟩
set_option maxHeartbeats 400000 in
set_option maxRecDepth 100000 in
/-- the law: come -/
theorem w_come {l : Launch} {D : Dx} {b0 : Nat} {ad : Nat → Nat} {F : Fn} (s : St) (a b : Int32) (f0 : Nat → Int64) (hC : CRep D ad F s) (hI : Inv s) (h400 : F 400 = some (aJ D 1 f0)) (hI2 : Inv (spCome s a b).2.2) : Ct l D b0 yL_come (wsH yL_come cL_come 5 (some .int) [(0, 10, 13, 13)]) rW [.ref (ad 0), .int a, .int b, .ref (ad 400)] ad F (PoW D ad F (spCome s a b)) noX := by
  refine Ct.ofH (by decide +kernel) (by simp [Value.category]) (Nat.le_of_ble_eq_true rfl) (fun X eD eb el C Q => ?_)
  subst eD; subst eb; subst el
  have hM := hC.1
  unfold kMain at hM
  refine V_aload_n C dL_come_0 rfl ?_
  refine V_iconst (v := 0) C dL_come_1 rfl ?_
  refine V_aload_n C dL_come_2 rfl ?_
  refine V_iload_n C dL_come_3 rfl ?_
  refine V_iload_n C dL_come_4 rfl ?_
  refine V_invV C dL_come_5 hM rfl (c_come s a b hC hI) mv_L_77 rfl (Nat.le_of_ble_eq_true rfl) ⟨Nat.le_of_ble_eq_true rfl, Nat.le_of_ble_eq_true rfl⟩ ⟨Nat.le_of_ble_eq_true rfl, Nat.le_of_ble_eq_true rfl⟩ ?_ ?_
  · intro E ad1 F1 h
    obtain ⟨⟨i, hi, he⟩, hC1, hfk⟩ := h
    rcases i with _ | i
    · have hE : eIAE = E := Option.some.inj he
      subst hE
      refine VT_catch [] ⟨0, 10, 13, 13⟩ [] C rfl (fun z hz => nomatch hz) rfl (by decide) cl_L_13 (List.mem_of_getElem? (i := 0) rfl) (fun q => ?_)
      refine V_astore C dL_come_13 (by decide) ?_
      refine V_iconst (v := 1) C dL_come_15 rfl ?_
      exact V_ireturn C Q dL_come_16 rfl (Nat.le_of_ble_eq_true rfl) (Nat.le_of_ble_eq_true rfl) ⟨by rw [hi]; rfl, hC1, ⟨f0, (hfk 400 (by decide)).2.trans h400, fun h => absurd h (by rw [hi]; exact Nat.succ_ne_zero _)⟩, fun c hc => ⟨hfk.ad hc, fun _ => (hfk c hc).2⟩, hfk.a0⟩
    · exact absurd he (by simp)
  intro v ad1 F1 hp
  obtain ⟨h0, rfl, hC1, hfk⟩ := hp
  have h400 := (hfk 400 (by decide)).2.trans h400
  rw [show ad 400 = ad1 400 from (hfk.ad (by decide)).symm]
  refine V_i2l C dL_come_8 rfl ?_
  refine G_last C dL_come_9 h400 (show (0 : Int32) = nI 0 from rfl) (by decide) (by decide) (fun F2 h400 hfr => ?_)
  refine V_goto (tgt := 17) C dL_come_10 (by decide) ?_
  refine V_iconst (v := 0) C dL_come_17 rfl ?_
  exact V_ireturn C Q dL_come_18 rfl (Nat.le_of_ble_eq_true rfl) (Nat.le_of_ble_eq_true rfl) ⟨by rw [h0]; rfl, hC1.keptF hI2 (fun c hc => hfr c (by omega)), ⟨_, h400, fun _ => rfl⟩, fun c hc => ⟨hfk.ad hc, fun hn => (hfr c hn).trans (hfk c hc).2⟩, hfk.a0⟩
