/-! ===== the class's calls on links and incoming texts ===== -/
def spQd (s : St) (a : Int32) : Ans := if a < 0 ∨ nI 3 ≤ a then (1, 0, s) else (0, nI (zRw s (2 * a.toNatClampNeg)).length, s)
def spUw (s : St) (a : Int32) : Ans := if a < 0 ∨ nI 3 ≤ a then (1, 0, s) else (0, nI (zRw s (2 * a.toNatClampNeg + 1)).length, s)
def spTok (s : St) (a : Int32) : Ans := if a < 0 ∨ nI 3 ≤ a then (1, 0, s) else (0, nI (zTk s a.toNatClampNeg), s)
def spSetW (s : St) (a b : Int32) : Ans := if a < 0 ∨ nI 3 ≤ a then (1, 0, s) else if b < 1 ∨ 10 < b then (2, 0, s) else (0, nI (zWn s a.toNatClampNeg), sWn s (va_up (zWn s) a.toNatClampNeg b.toNatClampNeg))
/-- a link goes down -/
def downS (s : St) (l : Nat) : St := sPt (sRw (sUp s (va_up (zUp s) l 0)) (va_up (va_up (zRw s) (2 * l) ((zRw s (2 * l + 1)).filter (fun c => decide (zSt s (mOf c) = 0)) ++ zRw s (2 * l))) (2 * l + 1) []))
  (fun c => if c ∈ zRw s (2 * l + 1) ∧ zSt s (mOf c) = 0 then zNow s else zPt s c)
def spTog (s : St) (a : Int32) : Ans := if a < 0 ∨ nI 3 ≤ a then (1, 0, s) else if zUp s a.toNatClampNeg = 0 then (0, 1, sUp s (va_up (zUp s) a.toNatClampNeg 1)) else (0, 0, downS s a.toNatClampNeg)
def wkS (s : St) (r c : Nat) : Bool := wkD (fun c => nI (zRc s (mOf c))) (fun c => nI (zPw s c)) (nI r) c
def spAlert (s : St) (a : Int32) : Ans := if a < 0 ∨ nI 9 ≤ a then (1, 0, s) else
  (0, nI ((zRw s (2 * (a.toNatClampNeg % 3))).filter (wkS s a.toNatClampNeg)).length, sPw s (fun c => if c ∈ zRw s (2 * (a.toNatClampNeg % 3)) ∧ wkS s a.toNatClampNeg c = true then 0 else zPw s c))
def spKey (s : St) (a b : Int32) : Ans := if a ≤ 0 ∨ nI 5 ≤ a ∨ b < -1 ∨ 999 < b then (1, 0, s) else (0, 0, sKw s (gkF (zKw s) a.toNatClampNeg b))
def spCome (s : St) (a b : Int32) : Ans := if a < 0 ∨ nI 9 ≤ a ∨ b < 0 ∨ 999 < b then (1, 0, s) else
  (0, seW (zKw s) (zSe s) (zLa s) a.toNatClampNeg b (nI (zNow s)), sSL s (upd (zSe s) a.toNatClampNeg (seW (zKw s) (zSe s) (zLa s) a.toNatClampNeg b (nI (zNow s)))) (upd (zLa s) a.toNatClampNeg (nI (zNow s))))
def PoV (D : Dx) (ad : Nat → Nat) (F : Fn) (r : Ans) : Pst := fun v ad1 F1 => r.1 = 0 ∧ v = none ∧ CRep D ad1 F1 r.2.2 ∧ FrK ad F ad1 F1
/-- a part's cell, by its code -/
theorem prt_at {D : Dx} {ad : Nat → Nat} {F : Fn} {s : St} {l c : Nat} (hC : CRep D ad F s) (hI : Inv s) (h : InRow s l c) : 100 ≤ c ∧ c < 300 ∧ mOf c < zMc s ∧ c = 100 + 10 * mOf c + pOf c ∧ pOf c < npL (zMs s (mOf c)) ∧ zRc s (mOf c) % 3 = l ∧
    F c = some (oB 2 [.ref (ad (30 + 3 * mOf c)), .int (nI (pOf c)), .int (nI (zPf s c)), .int (nI (zPt s c)), .int (nI (zPw s c))]) := by
  obtain ⟨m, p, h1, h2, h3, h4, h5⟩ := h
  have hmc := hI.2.1
  have hl := (hI.2.2.2.2.2.1 m h1).2.1
  have h6 := (npL_spec hl).1
  have e1 : mOf c = m := by rw [h3]; exact mOf_c (by omega)
  have e2 : pOf c = p := by rw [h3]; exact pOf_c (by omega)
  have h7 := hC.2.2.2.2.2.2.2.2.2.1 m h1 p h2
  rw [← h3] at h7
  rw [e1, e2]
  exact ⟨by omega, by omega, h1, h3, h2, h4, h7⟩
set_option maxHeartbeats 400000 in
set_option maxRecDepth 100000 in
/-- linkAt -/
theorem c_linkAt {l : Launch} {D : Dx} {b0 : Nat} {ad : Nat → Nat} {F : Fn} (s : St) (a : Int32) (hC : CRep D ad F s) (hI : Inv s) : Ct l D b0 yX6_linkAt (wsA yX6_linkAt cX6_linkAt 2 (some (.object "Shortmessage$Link"))) (rX 6) [.ref (ad 0), .int a] ad F (fun v ad1 F1 => ¬ (a < 0 ∨ nI 3 ≤ a) ∧ v = some (.ref (ad (11 + a.toNatClampNeg))) ∧ ad = ad1 ∧ F = F1) (fun E ad1 F1 => (a < 0 ∨ nI 3 ≤ a) ∧ E = eIOB ∧ ad = ad1 ∧ F = F1) := by
  refine Ct.of (by decide +kernel) (by simp [Value.category]) (Nat.le_of_ble_eq_true rfl) (fun X eD eb el C Q => ?_)
  subst eD; subst eb; subst el
  have hM := hC.1
  have hmc := hI.2.1
  unfold kMain at hM
  obtain ⟨fl, hla, hfl⟩ := hC.2.2.2.2.1
  refine V_iload_n C dX6_linkAt_0 rfl ?_
  refine V_iflt (tgt := 13) C dX6_linkAt_1 (by decide) (fun h1 => ?_) (fun h1 => ?_)
  · exact V_throwS C Q rfl (th_IOB 223 _ sw_223) dX6_linkAt_13 dX6_linkAt_16 dX6_linkAt_17 dX6_linkAt_19 dX6_linkAt_22 ⟨Nat.le_of_ble_eq_true rfl, Nat.le_of_ble_eq_true rfl⟩ (Nat.le_of_ble_eq_true rfl) (Nat.le_of_ble_eq_true rfl) ⟨Or.inl h1, rfl, rfl, rfl⟩
  · refine V_iload_n C dX6_linkAt_4 rfl ?_
    refine V_aload_n C dX6_linkAt_5 rfl ?_
    refine V_get C dX6_linkAt_6 fr_6_35 hM rfl ?_
    refine V_alen C dX6_linkAt_9 hla rfl ?_
    refine V_icmplt (tgt := 23) C dX6_linkAt_10 (by decide) (fun h2 => ?_) (fun h2 => ?_)
    · have hga : ¬ (a < 0 ∨ nI 3 ≤ a) := fun h => h.elim h1 (fun h => absurd h2 (Int32.not_lt.mpr h))
      obtain ⟨j, hj, rfl⟩ := badI_not (a := a) (n := 3) (by decide) hga
      have ej : (nI j).toNatClampNeg = j := nI_clamp (by omega)
      rw [ej] at Q
      refine V_aload_n C dX6_linkAt_23 rfl ?_
      refine V_get C dX6_linkAt_24 fr_6_35 hM rfl ?_
      refine V_iload_n C dX6_linkAt_27 rfl ?_
      refine V_aald C dX6_linkAt_28 hla rfl rfl hj (by decide) ?_
      refine V_rf (r' := some (ad (11 + j))) (hfl j hj) ?_
      exact V_areturn C Q dX6_linkAt_29 (Or.inl ⟨_, rfl⟩) (Or.inr ⟨_, rfl⟩) (Nat.le_of_ble_eq_true rfl) (Nat.le_of_ble_eq_true rfl) ⟨hga, rfl, rfl, rfl⟩
    · exact V_throwS C Q rfl (th_IOB 223 _ sw_223) dX6_linkAt_13 dX6_linkAt_16 dX6_linkAt_17 dX6_linkAt_19 dX6_linkAt_22 ⟨Nat.le_of_ble_eq_true rfl, Nat.le_of_ble_eq_true rfl⟩ (Nat.le_of_ble_eq_true rfl) (Nat.le_of_ble_eq_true rfl) ⟨Or.inr (Int32.not_lt.mp h2), rfl, rfl, rfl⟩
set_option maxHeartbeats 400000 in
set_option maxRecDepth 100000 in
/-- queued -/
theorem c_queued {l : Launch} {D : Dx} {b0 : Nat} {ad : Nat → Nat} {F : Fn} (s : St) (a : Int32) (hC : CRep D ad F s) (hI : Inv s) : Ct l D b0 yX6_queued (wsA yX6_queued cX6_queued 2 (some .int)) (rY 7) [.ref (ad 0), .int a] ad F (PoS D ad F (spQd s a)) (PxS D ad F [eIOB] (spQd s a)) := by
  refine Ct.of (by decide +kernel) (by simp [Value.category]) (Nat.le_of_ble_eq_true rfl) (fun X eD eb el C Q => ?_)
  subst eD; subst eb; subst el
  have hM := hC.1
  have hmc := hI.2.1
  unfold kMain at hM
  refine V_aload_n C dX6_queued_0 rfl ?_
  refine V_iload_n C dX6_queued_1 rfl ?_
  refine V_invV C dX6_queued_2 hM rfl (c_linkAt s a hC hI) mv_6_182 rfl (Nat.le_of_ble_eq_true rfl) ⟨Nat.le_of_ble_eq_true rfl, Nat.le_of_ble_eq_true rfl⟩ ⟨Nat.le_of_ble_eq_true rfl, Nat.le_of_ble_eq_true rfl⟩ ?_ ?_
  · intro E ad1 F1 h
    obtain ⟨h1, rfl, rfl, rfl⟩ := h
    rw [show spQd s a = (1, 0, s) from if_pos h1] at Q
    exact VT_out C Q (Nat.le_of_ble_eq_true rfl) (Nat.le_of_ble_eq_true rfl) ⟨⟨0, rfl, rfl⟩, hC, FrK.rf⟩
  intro v ad1 F1 hp
  obtain ⟨hga, rfl, rfl, rfl⟩ := hp
  obtain ⟨j, hj, rfl⟩ := badI_not (n := 3) (by decide) hga
  have ej : (nI j).toNatClampNeg = j := nI_clamp (by omega)
  rw [ej]
  have hk := hC.2.2.2.2.2.2.1 j hj
  unfold LinkAt at hk
  have hq := hC.2.2.2.2.2.2.2.1 (2 * j) (by omega)
  have hw := hC.2.2.2.2.2.2.2.1 (2 * j + 1) (by omega)
  have hq1 := hq.1
  have hw1 := hw.1
  rw [show 14 + (2 * j + 1) = 15 + 2 * j by omega, show 20 + (2 * j + 1) = 21 + 2 * j by omega] at hw1 hw
  rw [show spQd s (nI j) = (0, nI (zRw s (2 * j)).length, s) by unfold spQd; rw [if_neg hga, ej]] at Q
  refine V_get C dX6_queued_5 fr_6_125 hk rfl ?_
  refine V_get C dX6_queued_8 fr_6_196 hq1 rfl ?_
  exact V_ireturn C Q dX6_queued_11 rfl (Nat.le_of_ble_eq_true rfl) (Nat.le_of_ble_eq_true rfl) ⟨rfl, rfl, hC, FrK.rf⟩
set_option maxHeartbeats 400000 in
set_option maxRecDepth 100000 in
/-- underWay -/
theorem c_underWay {l : Launch} {D : Dx} {b0 : Nat} {ad : Nat → Nat} {F : Fn} (s : St) (a : Int32) (hC : CRep D ad F s) (hI : Inv s) : Ct l D b0 yX6_underWay (wsA yX6_underWay cX6_underWay 2 (some .int)) (rY 7) [.ref (ad 0), .int a] ad F (PoS D ad F (spUw s a)) (PxS D ad F [eIOB] (spUw s a)) := by
  refine Ct.of (by decide +kernel) (by simp [Value.category]) (Nat.le_of_ble_eq_true rfl) (fun X eD eb el C Q => ?_)
  subst eD; subst eb; subst el
  have hM := hC.1
  have hmc := hI.2.1
  unfold kMain at hM
  refine V_aload_n C dX6_underWay_0 rfl ?_
  refine V_iload_n C dX6_underWay_1 rfl ?_
  refine V_invV C dX6_underWay_2 hM rfl (c_linkAt s a hC hI) mv_6_182 rfl (Nat.le_of_ble_eq_true rfl) ⟨Nat.le_of_ble_eq_true rfl, Nat.le_of_ble_eq_true rfl⟩ ⟨Nat.le_of_ble_eq_true rfl, Nat.le_of_ble_eq_true rfl⟩ ?_ ?_
  · intro E ad1 F1 h
    obtain ⟨h1, rfl, rfl, rfl⟩ := h
    rw [show spUw s a = (1, 0, s) from if_pos h1] at Q
    exact VT_out C Q (Nat.le_of_ble_eq_true rfl) (Nat.le_of_ble_eq_true rfl) ⟨⟨0, rfl, rfl⟩, hC, FrK.rf⟩
  intro v ad1 F1 hp
  obtain ⟨hga, rfl, rfl, rfl⟩ := hp
  obtain ⟨j, hj, rfl⟩ := badI_not (n := 3) (by decide) hga
  have ej : (nI j).toNatClampNeg = j := nI_clamp (by omega)
  rw [ej]
  have hk := hC.2.2.2.2.2.2.1 j hj
  unfold LinkAt at hk
  have hq := hC.2.2.2.2.2.2.2.1 (2 * j) (by omega)
  have hw := hC.2.2.2.2.2.2.2.1 (2 * j + 1) (by omega)
  have hq1 := hq.1
  have hw1 := hw.1
  rw [show 14 + (2 * j + 1) = 15 + 2 * j by omega, show 20 + (2 * j + 1) = 21 + 2 * j by omega] at hw1 hw
  rw [show spUw s (nI j) = (0, nI (zRw s (2 * j + 1)).length, s) by unfold spUw; rw [if_neg hga, ej]] at Q
  refine V_get C dX6_underWay_5 fr_6_197 hk rfl ?_
  refine V_get C dX6_underWay_8 fr_6_196 hw1 rfl ?_
  exact V_ireturn C Q dX6_underWay_11 rfl (Nat.le_of_ble_eq_true rfl) (Nat.le_of_ble_eq_true rfl) ⟨rfl, rfl, hC, FrK.rf⟩
set_option maxHeartbeats 400000 in
set_option maxRecDepth 100000 in
/-- tokens -/
theorem c_tokens {l : Launch} {D : Dx} {b0 : Nat} {ad : Nat → Nat} {F : Fn} (s : St) (a : Int32) (hC : CRep D ad F s) (hI : Inv s) : Ct l D b0 yX6_tokens (wsA yX6_tokens cX6_tokens 2 (some .int)) (rY 7) [.ref (ad 0), .int a] ad F (PoS D ad F (spTok s a)) (PxS D ad F [eIOB] (spTok s a)) := by
  refine Ct.of (by decide +kernel) (by simp [Value.category]) (Nat.le_of_ble_eq_true rfl) (fun X eD eb el C Q => ?_)
  subst eD; subst eb; subst el
  have hM := hC.1
  have hmc := hI.2.1
  unfold kMain at hM
  refine V_aload_n C dX6_tokens_0 rfl ?_
  refine V_iload_n C dX6_tokens_1 rfl ?_
  refine V_invV C dX6_tokens_2 hM rfl (c_linkAt s a hC hI) mv_6_182 rfl (Nat.le_of_ble_eq_true rfl) ⟨Nat.le_of_ble_eq_true rfl, Nat.le_of_ble_eq_true rfl⟩ ⟨Nat.le_of_ble_eq_true rfl, Nat.le_of_ble_eq_true rfl⟩ ?_ ?_
  · intro E ad1 F1 h
    obtain ⟨h1, rfl, rfl, rfl⟩ := h
    rw [show spTok s a = (1, 0, s) from if_pos h1] at Q
    exact VT_out C Q (Nat.le_of_ble_eq_true rfl) (Nat.le_of_ble_eq_true rfl) ⟨⟨0, rfl, rfl⟩, hC, FrK.rf⟩
  intro v ad1 F1 hp
  obtain ⟨hga, rfl, rfl, rfl⟩ := hp
  obtain ⟨j, hj, rfl⟩ := badI_not (n := 3) (by decide) hga
  have ej : (nI j).toNatClampNeg = j := nI_clamp (by omega)
  rw [ej]
  have hk := hC.2.2.2.2.2.2.1 j hj
  unfold LinkAt at hk
  have hq := hC.2.2.2.2.2.2.2.1 (2 * j) (by omega)
  have hw := hC.2.2.2.2.2.2.2.1 (2 * j + 1) (by omega)
  have hq1 := hq.1
  have hw1 := hw.1
  rw [show 14 + (2 * j + 1) = 15 + 2 * j by omega, show 20 + (2 * j + 1) = 21 + 2 * j by omega] at hw1 hw
  rw [show spTok s (nI j) = (0, nI (zTk s j), s) by unfold spTok; rw [if_neg hga, ej]] at Q
  refine V_get C dX6_tokens_5 fr_6_200 hk rfl ?_
  exact V_ireturn C Q dX6_tokens_8 rfl (Nat.le_of_ble_eq_true rfl) (Nat.le_of_ble_eq_true rfl) ⟨rfl, rfl, hC, FrK.rf⟩
/-- one link's object is another -/
theorem CRep.lnk {D : Dx} {ad : Nat → Nat} {F G : Fn} {s s1 : St} {j : Nat} (hC : CRep D ad F s) (hj : j < 3) (hK : ∀ z, z ≠ 11 + j → G z = F z) (hG : LinkAt ad G (11 + j) (14 + 2 * j) (15 + 2 * j) (nI (zUp s1 j)) (nI (zWn s1 j)) (nI (zTk s1 j)))
    (h1 : ∀ l, l ≠ j → zUp s1 l = zUp s l ∧ zWn s1 l = zWn s l ∧ zTk s1 l = zTk s l) (h2 : s1 = (zNow s, zMc s, zTxt s, zRcp s, zUp s1, zWn s1, zTk s1, zRw s, zSt s, zRc s, zEn s, zLk s, zMs s, zPf s, zPt s, zPw s, zKw s, zSe s, zLa s)) : CRep D ad G s1 := by
  have hL : kLnk ad G (zUp s1) (zWn s1) (zTk s1) := fun l hl => by
    by_cases e : l = j
    · subst e; exact hG
    · obtain ⟨e1, e2, e3⟩ := h1 l e
      rw [e1, e2, e3]
      exact (hK _ (by omega)).trans (hC.2.2.2.2.2.2.1 l hl)
  rw [h2]
  exact ⟨hC.1.kept (hK 0 (by omega)), TxtK hC.2.1 (hK _ (by omega)) (hK _ (by omega)) (hK _ (by omega)), hC.2.2.1.kept (hK _ (by omega)), hC.2.2.2.1.kept (hK _ (by omega)), hC.2.2.2.2.1.kept (hK _ (by omega)), hC.2.2.2.2.2.1.kept (hK _ (by omega)) (hK _ (by omega)) (hK _ (by omega)) (hK _ (by omega)), hL, hC.2.2.2.2.2.2.2.1.kept (fun r _ => ⟨hK _ (by omega), hK _ (by omega)⟩), hC.2.2.2.2.2.2.2.2.1.kept (fun m _ => ⟨hK _ (by omega), hK _ (by omega), hK _ (by omega)⟩), hC.2.2.2.2.2.2.2.2.2.1.kept (fun m _ p _ => hK _ (by omega)), hC.2.2.2.2.2.2.2.2.2.2.kept (fun c h1 _ h => (hK c (by omega)).trans h)⟩
set_option maxHeartbeats 400000 in
set_option maxRecDepth 100000 in
/-- setWindow -/
theorem c_setWindow {l : Launch} {D : Dx} {b0 : Nat} {ad : Nat → Nat} {F : Fn} (s : St) (a b : Int32) (hC : CRep D ad F s) (hI : Inv s) : Ct l D b0 yX6_setWindow (wsA yX6_setWindow cX6_setWindow 5 (some .int)) (rY 7) [.ref (ad 0), .int a, .int b] ad F (PoS D ad F (spSetW s a b)) (PxS D ad F [eIOB, eIAE] (spSetW s a b)) := by
  refine Ct.of (by decide +kernel) (by simp [Value.category]) (Nat.le_of_ble_eq_true rfl) (fun X eD eb el C Q => ?_)
  subst eD; subst eb; subst el
  have hM := hC.1
  have hmc := hI.2.1
  unfold kMain at hM
  refine V_aload_n C dX6_setWindow_0 rfl ?_
  refine V_iload_n C dX6_setWindow_1 rfl ?_
  refine V_invV C dX6_setWindow_2 hM rfl (c_linkAt s a hC hI) mv_6_182 rfl (Nat.le_of_ble_eq_true rfl) ⟨Nat.le_of_ble_eq_true rfl, Nat.le_of_ble_eq_true rfl⟩ ⟨Nat.le_of_ble_eq_true rfl, Nat.le_of_ble_eq_true rfl⟩ ?_ ?_
  · intro E ad1 F1 h
    obtain ⟨h1, rfl, rfl, rfl⟩ := h
    rw [show spSetW s a b = (1, 0, s) from if_pos h1] at Q
    exact VT_out C Q (Nat.le_of_ble_eq_true rfl) (Nat.le_of_ble_eq_true rfl) ⟨⟨0, rfl, rfl⟩, hC, FrK.rf⟩
  intro v ad1 F1 hp
  obtain ⟨hga, rfl, rfl, rfl⟩ := hp
  obtain ⟨j, hj, rfl⟩ := badI_not (n := 3) (by decide) hga
  have ej : (nI j).toNatClampNeg = j := nI_clamp (by omega)
  rw [ej]
  have hk := hC.2.2.2.2.2.2.1 j hj
  unfold LinkAt at hk
  have hq := hC.2.2.2.2.2.2.2.1 (2 * j) (by omega)
  have hw := hC.2.2.2.2.2.2.2.1 (2 * j + 1) (by omega)
  have hq1 := hq.1
  have hw1 := hw.1
  rw [show 14 + (2 * j + 1) = 15 + 2 * j by omega, show 20 + (2 * j + 1) = 21 + 2 * j by omega] at hw1 hw
  refine V_astore_n C dX6_setWindow_5 (by decide) ?_
  refine V_iload_n C dX6_setWindow_6 rfl ?_
  refine V_iconst (v := 1) C dX6_setWindow_7 rfl ?_
  refine V_icmplt (tgt := 17) C dX6_setWindow_8 (by decide) (fun h1 => ?_) (fun h1 => ?_)
  · rw [show spSetW s (nI j) b = (2, 0, s) by unfold spSetW; rw [if_neg hga, if_pos (Or.inl h1)]] at Q
    exact V_throwS C Q rfl (th_IAE 191 _ sw_191) dX6_setWindow_17 dX6_setWindow_20 dX6_setWindow_21 dX6_setWindow_23 dX6_setWindow_26 ⟨Nat.le_of_ble_eq_true rfl, Nat.le_of_ble_eq_true rfl⟩ (Nat.le_of_ble_eq_true rfl) (Nat.le_of_ble_eq_true rfl) ⟨⟨1, rfl, rfl⟩, hC, FrK.rf⟩
  · refine V_iload_n C dX6_setWindow_11 rfl ?_
    refine V_bipush (v := 10) C dX6_setWindow_12 (by decide) ?_
    refine V_icmple (tgt := 27) C dX6_setWindow_14 (by decide) (fun h2 => ?_) (fun h2 => ?_)
    · obtain ⟨k, hk9, rfl⟩ := nI_of2 (n := 10) (M := 10) rfl (fun h => h1 (Int32.lt_trans h (by decide))) h2
      have ek : (nI k).toNatClampNeg = k := nI_clamp (by omega)
      rw [show spSetW s (nI j) (nI k) = (0, nI (zWn s j), sWn s (va_up (zWn s) j k)) by unfold spSetW; rw [if_neg hga, if_neg (fun h => h.elim h1 (fun h => absurd h2 (Int32.not_le.mpr h))), ej, ek]] at Q
      refine V_aload_n C dX6_setWindow_27 rfl ?_
      refine V_get C dX6_setWindow_28 fr_6_193 hk rfl ?_
      refine V_istore C dX6_setWindow_31 (by decide) ?_
      refine V_aload_n C dX6_setWindow_33 rfl ?_
      refine V_iload_n C dX6_setWindow_34 rfl ?_
      refine G_put C dX6_setWindow_35 fp_6_193 hk rfl rfl (Nat.le_of_ble_eq_true rfl) (fun F1 hk hfr => ?_)
      dsimp only [List.set] at hk
      refine V_iload C dX6_setWindow_38 rfl ?_
      exact V_ireturn C Q dX6_setWindow_40 rfl (Nat.le_of_ble_eq_true rfl) (Nat.le_of_ble_eq_true rfl) ⟨rfl, rfl, hC.lnk (s1 := sWn s (va_up (zWn s) j k)) hj hfr (by rw [show zWn (sWn s (va_up (zWn s) j k)) j = k from up_s]; exact hk) (fun l hl => ⟨rfl, up_n hl, rfl⟩) rfl, fun c hc => ⟨rfl, hfr c (by omega)⟩⟩
    · rw [show spSetW s (nI j) b = (2, 0, s) by unfold spSetW; rw [if_neg hga, if_pos (Or.inr (Int32.not_le.mp h2))]] at Q
      exact V_throwS C Q rfl (th_IAE 191 _ sw_191) dX6_setWindow_17 dX6_setWindow_20 dX6_setWindow_21 dX6_setWindow_23 dX6_setWindow_26 ⟨Nat.le_of_ble_eq_true rfl, Nat.le_of_ble_eq_true rfl⟩ (Nat.le_of_ble_eq_true rfl) (Nat.le_of_ble_eq_true rfl) ⟨⟨1, rfl, rfl⟩, hC, FrK.rf⟩
/-- the reception is another -/
theorem CRep.rec {D : Dx} {ad : Nat → Nat} {F G : Fn} {s : St} {kw se la : Nat → Int32} (hC : CRep D ad F s) (hK : ∀ z, z ≠ 8 → z ≠ 9 → z ≠ 10 → G z = F z) (hG : kRec D ad G kw se la) : CRep D ad G (sSL (sKw s kw) se la) :=
  ⟨hC.1.kept (hK 0 (by omega) (by omega) (by omega)), TxtK hC.2.1 (hK _ (by omega) (by omega) (by omega)) (hK _ (by omega) (by omega) (by omega)) (hK _ (by omega) (by omega) (by omega)), hC.2.2.1.kept (hK _ (by omega) (by omega) (by omega)), hC.2.2.2.1.kept (hK _ (by omega) (by omega) (by omega)), hC.2.2.2.2.1.kept (hK _ (by omega) (by omega) (by omega)), hG, hC.2.2.2.2.2.2.1.kept (fun l _ => hK _ (by omega) (by omega) (by omega)), hC.2.2.2.2.2.2.2.1.kept (fun r _ => ⟨hK _ (by omega) (by omega) (by omega), hK _ (by omega) (by omega) (by omega)⟩), hC.2.2.2.2.2.2.2.2.1.kept (fun m _ => ⟨hK _ (by omega) (by omega) (by omega), hK _ (by omega) (by omega) (by omega), hK _ (by omega) (by omega) (by omega)⟩), hC.2.2.2.2.2.2.2.2.2.1.kept (fun m _ p _ => hK _ (by omega) (by omega) (by omega)), hC.2.2.2.2.2.2.2.2.2.2.kept (fun c h1 _ h => (hK c (by omega) (by omega) (by omega)).trans h)⟩
set_option maxHeartbeats 400000 in
set_option maxRecDepth 100000 in
/-- setKeyword -/
theorem c_setKeyword {l : Launch} {D : Dx} {b0 : Nat} {ad : Nat → Nat} {F : Fn} (s : St) (a b : Int32) (hC : CRep D ad F s) (hI : Inv s) : Ct l D b0 yX6_setKeyword (wsA yX6_setKeyword cX6_setKeyword 3 none) (rX 6) [.ref (ad 0), .int a, .int b] ad F (PoV D ad F (spKey s a b)) (PxS D ad F [eIAE] (spKey s a b)) := by
  refine Ct.of (by decide +kernel) (by simp [Value.category]) (Nat.le_of_ble_eq_true rfl) (fun X eD eb el C Q => ?_)
  subst eD; subst eb; subst el
  have hM := hC.1
  have hmc := hI.2.1
  unfold kMain at hM
  obtain ⟨hrc, ⟨f8, h8, hf8⟩, h9, h10⟩ := hC.2.2.2.2.2.1
  have hrc0 := hrc
  unfold RcpAt at hrc
  refine V_iload_n C dX6_setKeyword_0 rfl ?_
  refine V_ifle (tgt := 21) C dX6_setKeyword_1 (by decide) (fun h1 => ?_) (fun h1 => ?_)
  · rw [show spKey s a b = (1, 0, s) from if_pos (Or.inl h1)] at Q
    exact V_throwS C Q rfl (th_IAE 250 _ sw_250) dX6_setKeyword_21 dX6_setKeyword_24 dX6_setKeyword_25 dX6_setKeyword_27 dX6_setKeyword_30 ⟨Nat.le_of_ble_eq_true rfl, Nat.le_of_ble_eq_true rfl⟩ (Nat.le_of_ble_eq_true rfl) (Nat.le_of_ble_eq_true rfl) ⟨⟨0, rfl, rfl⟩, hC, FrK.rf⟩
  · refine V_iload_n C dX6_setKeyword_4 rfl ?_
    refine V_iconst (v := 5) C dX6_setKeyword_5 rfl ?_
    refine V_icmpge (tgt := 21) C dX6_setKeyword_6 (by decide) (fun h2 => ?_) (fun h2 => ?_)
    · rw [show spKey s a b = (1, 0, s) from if_pos (Or.inr (Or.inl h2))] at Q
      exact V_throwS C Q rfl (th_IAE 250 _ sw_250) dX6_setKeyword_21 dX6_setKeyword_24 dX6_setKeyword_25 dX6_setKeyword_27 dX6_setKeyword_30 ⟨Nat.le_of_ble_eq_true rfl, Nat.le_of_ble_eq_true rfl⟩ (Nat.le_of_ble_eq_true rfl) (Nat.le_of_ble_eq_true rfl) ⟨⟨0, rfl, rfl⟩, hC, FrK.rf⟩
    · refine V_iload_n C dX6_setKeyword_9 rfl ?_
      refine V_iconst (v := (-1)) C dX6_setKeyword_10 rfl ?_
      refine V_icmplt (tgt := 21) C dX6_setKeyword_11 (by decide) (fun h3 => ?_) (fun h3 => ?_)
      · rw [show spKey s a b = (1, 0, s) from if_pos (Or.inr (Or.inr (Or.inl h3)))] at Q
        exact V_throwS C Q rfl (th_IAE 250 _ sw_250) dX6_setKeyword_21 dX6_setKeyword_24 dX6_setKeyword_25 dX6_setKeyword_27 dX6_setKeyword_30 ⟨Nat.le_of_ble_eq_true rfl, Nat.le_of_ble_eq_true rfl⟩ (Nat.le_of_ble_eq_true rfl) (Nat.le_of_ble_eq_true rfl) ⟨⟨0, rfl, rfl⟩, hC, FrK.rf⟩
      · refine V_iload_n C dX6_setKeyword_14 rfl ?_
        refine V_sipush (v := 999) C dX6_setKeyword_15 (by decide) ?_
        refine V_icmple (tgt := 31) C dX6_setKeyword_18 (by decide) (fun h4 => ?_) (fun h4 => ?_)
        · have hgd : ¬ (a ≤ 0 ∨ nI 5 ≤ a ∨ b < -1 ∨ 999 < b) := by
            rintro (h | h | h | h)
            · exact h1 h
            · exact h2 h
            · exact h3 h
            · exact absurd h4 (Int32.not_le.mpr h)
          obtain ⟨j, hj, rfl⟩ := badI_not (a := a) (n := 5) (by decide) (fun h => h.elim (fun h => h1 (Int32.le_of_lt h)) h2)
          have ej : (nI j).toNatClampNeg = j := nI_clamp (by omega)
          rw [show spKey s (nI j) b = (0, 0, sKw s (gkF (zKw s) j b)) by unfold spKey; rw [if_neg hgd, ej]] at Q
          refine V_aload_n C dX6_setKeyword_31 rfl ?_
          refine V_get C dX6_setKeyword_32 fr_6_42 hM rfl ?_
          refine V_iload_n C dX6_setKeyword_35 rfl ?_
          refine V_iload_n C dX6_setKeyword_36 rfl ?_
          refine V_invV C dX6_setKeyword_37 hrc rfl (c_giveKeyword 7 8 9 10 j f8 b hrc0 h8 hj) mv_6_252 rfl (Nat.le_of_ble_eq_true rfl) ⟨Nat.le_of_ble_eq_true rfl, Nat.le_of_ble_eq_true rfl⟩ ⟨Nat.le_of_ble_eq_true rfl, Nat.le_of_ble_eq_true rfl⟩ (fun _ _ _ h => VT_no h) (fun v ad1 F1 hp => ?_)
          obtain ⟨rfl, rfl, ⟨g, hg, hgj⟩, hK⟩ := hp
          refine V_return C Q dX6_setKeyword_40 (Nat.le_of_ble_eq_true rfl) (Nat.le_of_ble_eq_true rfl) ⟨rfl, rfl, hC.rec (kw := gkF (zKw s) j b) (se := zSe s) (la := zLa s) (fun z h _ _ => hK z h) ⟨(hK 7 (by decide)).trans hrc, ⟨g, hg, fun i hi => ?_⟩, h9.imp fun f hf => ⟨(hK 9 (by decide)).trans hf.1, hf.2⟩, h10.imp fun f hf => ⟨(hK 10 (by decide)).trans hf.1, hf.2⟩⟩, fun c hc => ⟨rfl, hK c (by omega)⟩⟩
          rw [hgj i hi]
          simp only [gkF]
          rw [hf8 i hi]
        · rw [show spKey s a b = (1, 0, s) from if_pos (Or.inr (Or.inr (Or.inr (Int32.not_le.mp h4))))] at Q
          exact V_throwS C Q rfl (th_IAE 250 _ sw_250) dX6_setKeyword_21 dX6_setKeyword_24 dX6_setKeyword_25 dX6_setKeyword_27 dX6_setKeyword_30 ⟨Nat.le_of_ble_eq_true rfl, Nat.le_of_ble_eq_true rfl⟩ (Nat.le_of_ble_eq_true rfl) (Nat.le_of_ble_eq_true rfl) ⟨⟨0, rfl, rfl⟩, hC, FrK.rf⟩
set_option maxHeartbeats 400000 in
set_option maxRecDepth 100000 in
/-- come -/
theorem c_come {l : Launch} {D : Dx} {b0 : Nat} {ad : Nat → Nat} {F : Fn} (s : St) (a b : Int32) (hC : CRep D ad F s) (hI : Inv s) : Ct l D b0 yX6_come (wsA yX6_come cX6_come 3 (some .int)) (rX 6) [.ref (ad 0), .int a, .int b] ad F (PoS D ad F (spCome s a b)) (PxS D ad F [eIAE] (spCome s a b)) := by
  refine Ct.of (by decide +kernel) (by simp [Value.category]) (Nat.le_of_ble_eq_true rfl) (fun X eD eb el C Q => ?_)
  subst eD; subst eb; subst el
  have hM := hC.1
  have hmc := hI.2.1
  unfold kMain at hM
  obtain ⟨hrc, ⟨f8, h8, hf8⟩, ⟨f9, h9, hf9⟩, f10, h10, hf10⟩ := hC.2.2.2.2.2.1
  have hrc0 := hrc
  unfold RcpAt at hrc
  refine V_iload_n C dX6_come_0 rfl ?_
  refine V_iflt (tgt := 21) C dX6_come_1 (by decide) (fun h1 => ?_) (fun h1 => ?_)
  · rw [show spCome s a b = (1, 0, s) from if_pos (Or.inl h1)] at Q
    exact V_throwS C Q rfl (th_IAE 255 _ sw_255) dX6_come_21 dX6_come_24 dX6_come_25 dX6_come_27 dX6_come_30 ⟨Nat.le_of_ble_eq_true rfl, Nat.le_of_ble_eq_true rfl⟩ (Nat.le_of_ble_eq_true rfl) (Nat.le_of_ble_eq_true rfl) ⟨⟨0, rfl, rfl⟩, hC, FrK.rf⟩
  · refine V_iload_n C dX6_come_4 rfl ?_
    refine V_bipush (v := 9) C dX6_come_5 (by decide) ?_
    refine V_icmpge (tgt := 21) C dX6_come_7 (by decide) (fun h2 => ?_) (fun h2 => ?_)
    · rw [show spCome s a b = (1, 0, s) from if_pos (Or.inr (Or.inl h2))] at Q
      exact V_throwS C Q rfl (th_IAE 255 _ sw_255) dX6_come_21 dX6_come_24 dX6_come_25 dX6_come_27 dX6_come_30 ⟨Nat.le_of_ble_eq_true rfl, Nat.le_of_ble_eq_true rfl⟩ (Nat.le_of_ble_eq_true rfl) (Nat.le_of_ble_eq_true rfl) ⟨⟨0, rfl, rfl⟩, hC, FrK.rf⟩
    · refine V_iload_n C dX6_come_10 rfl ?_
      refine V_iflt (tgt := 21) C dX6_come_11 (by decide) (fun h3 => ?_) (fun h3 => ?_)
      · rw [show spCome s a b = (1, 0, s) from if_pos (Or.inr (Or.inr (Or.inl h3)))] at Q
        exact V_throwS C Q rfl (th_IAE 255 _ sw_255) dX6_come_21 dX6_come_24 dX6_come_25 dX6_come_27 dX6_come_30 ⟨Nat.le_of_ble_eq_true rfl, Nat.le_of_ble_eq_true rfl⟩ (Nat.le_of_ble_eq_true rfl) (Nat.le_of_ble_eq_true rfl) ⟨⟨0, rfl, rfl⟩, hC, FrK.rf⟩
      · refine V_iload_n C dX6_come_14 rfl ?_
        refine V_sipush (v := 999) C dX6_come_15 (by decide) ?_
        refine V_icmple (tgt := 31) C dX6_come_18 (by decide) (fun h4 => ?_) (fun h4 => ?_)
        · have hgd : ¬ (a < 0 ∨ nI 9 ≤ a ∨ b < 0 ∨ 999 < b) := by
            rintro (h | h | h | h)
            · exact h1 h
            · exact h2 h
            · exact h3 h
            · exact absurd h4 (Int32.not_le.mpr h)
          obtain ⟨j, hj, rfl⟩ := badI_not (a := a) (n := 9) (by decide) (fun h => h.elim h1 h2)
          have ej : (nI j).toNatClampNeg = j := nI_clamp (by omega)
          have e8 : svW f8 b = svW (zKw s) b := by unfold svW; rw [hf8 1 (by decide), hf8 2 (by decide), hf8 3 (by decide), hf8 4 (by decide)]
          have e9 : seW f8 f9 f10 j b (nI (zNow s)) = seW (zKw s) (zSe s) (zLa s) j b (nI (zNow s)) := by unfold seW; rw [e8, hf9 j hj, hf10 j hj]
          obtain ⟨r, hr⟩ : ∃ r, r = seW (zKw s) (zSe s) (zLa s) j b (nI (zNow s)) := ⟨_, rfl⟩
          rw [show spCome s (nI j) b = (0, r, sSL s (upd (zSe s) j r) (upd (zLa s) j (nI (zNow s)))) by unfold spCome; rw [if_neg hgd, ej, ← hr]] at Q
          refine V_aload_n C dX6_come_31 rfl ?_
          refine V_get C dX6_come_32 fr_6_42 hM rfl ?_
          refine V_iload_n C dX6_come_35 rfl ?_
          refine V_iload_n C dX6_come_36 rfl ?_
          refine V_aload_n C dX6_come_37 rfl ?_
          refine V_get C dX6_come_38 fr_6_46 hM rfl ?_
          refine V_invV C dX6_come_41 hrc rfl (c_serviceFor 7 8 9 10 j f8 f9 f10 b (nI (zNow s)) hrc0 h8 h9 h10 hj (by decide)) mv_6_257 rfl (Nat.le_of_ble_eq_true rfl) ⟨Nat.le_of_ble_eq_true rfl, Nat.le_of_ble_eq_true rfl⟩ ⟨Nat.le_of_ble_eq_true rfl, Nat.le_of_ble_eq_true rfl⟩ (fun _ _ _ h => VT_no h) (fun v ad1 F1 hp => ?_)
          obtain ⟨rfl, rfl, g9, g10, hK⟩ := hp
          rw [e9, ← hr] at g9
          refine V_nm (w := r) (by rw [e9, hr]) ?_
          refine V_ireturn C Q dX6_come_44 rfl (Nat.le_of_ble_eq_true rfl) (Nat.le_of_ble_eq_true rfl) ⟨rfl, rfl, hC.rec (kw := zKw s) (se := upd (zSe s) j r) (la := upd (zLa s) j (nI (zNow s))) (fun z _ h1 h2 => hK z (by simp [h1, h2])) ⟨(hK 7 (by decide)).trans hrc, ⟨f8, (hK 8 (by decide)).trans h8, hf8⟩, ⟨_, g9, fun i hi => ?_⟩, _, g10, fun i hi => ?_⟩, fun c hc => ⟨rfl, hK c (by simp; omega)⟩⟩
          · simp only [upd]; split
            · rfl
            · exact hf9 i hi
          · simp only [upd]; split
            · rfl
            · exact hf10 i hi
        · rw [show spCome s a b = (1, 0, s) from if_pos (Or.inr (Or.inr (Or.inr (Int32.not_le.mp h4))))] at Q
          exact V_throwS C Q rfl (th_IAE 255 _ sw_255) dX6_come_21 dX6_come_24 dX6_come_25 dX6_come_27 dX6_come_30 ⟨Nat.le_of_ble_eq_true rfl, Nat.le_of_ble_eq_true rfl⟩ (Nat.le_of_ble_eq_true rfl) (Nat.le_of_ble_eq_true rfl) ⟨⟨0, rfl, rfl⟩, hC, FrK.rf⟩
set_option maxHeartbeats 400000 in
set_option maxRecDepth 100000 in
/-- requireReceiver -/
theorem c_requireReceiver {l : Launch} {D : Dx} {b0 : Nat} {ad : Nat → Nat} {F : Fn} (s : St) (a : Int32) (hC : CRep D ad F s) (hI : Inv s) : Ct l D b0 yX6_requireReceiver (wsA yX6_requireReceiver cX6_requireReceiver 2 none) (rX 6) [.ref (ad 0), .int a] ad F (fun v ad1 F1 => v = none ∧ ¬ (a < 0 ∨ nI 9 ≤ a) ∧ ad = ad1 ∧ F = F1) (fun E ad1 F1 => (a < 0 ∨ nI 9 ≤ a) ∧ E = eIAE ∧ ad = ad1 ∧ F = F1) := by
  refine Ct.of (by decide +kernel) (by simp [Value.category]) (Nat.le_of_ble_eq_true rfl) (fun X eD eb el C Q => ?_)
  subst eD; subst eb; subst el
  have hM := hC.1
  have hmc := hI.2.1
  unfold kMain at hM
  refine V_iload_n C dX6_requireReceiver_0 rfl ?_
  refine V_iflt (tgt := 10) C dX6_requireReceiver_1 (by decide) (fun h1 => ?_) (fun h1 => ?_)
  · exact V_throwS C Q rfl (th_IAE 167 _ sw_167) dX6_requireReceiver_10 dX6_requireReceiver_13 dX6_requireReceiver_14 dX6_requireReceiver_16 dX6_requireReceiver_19 ⟨Nat.le_of_ble_eq_true rfl, Nat.le_of_ble_eq_true rfl⟩ (Nat.le_of_ble_eq_true rfl) (Nat.le_of_ble_eq_true rfl) ⟨Or.inl h1, rfl, rfl, rfl⟩
  · refine V_iload_n C dX6_requireReceiver_4 rfl ?_
    refine V_bipush (v := 9) C dX6_requireReceiver_5 (by decide) ?_
    refine V_icmplt (tgt := 20) C dX6_requireReceiver_7 (by decide) (fun h2 => ?_) (fun h2 => ?_)
    · exact V_return C Q dX6_requireReceiver_20 (Nat.le_of_ble_eq_true rfl) (Nat.le_of_ble_eq_true rfl) ⟨rfl, fun h => h.elim h1 (fun h => absurd h2 (Int32.not_lt.mpr h)), rfl, rfl⟩
    · exact V_throwS C Q rfl (th_IAE 167 _ sw_167) dX6_requireReceiver_10 dX6_requireReceiver_13 dX6_requireReceiver_14 dX6_requireReceiver_16 dX6_requireReceiver_19 ⟨Nat.le_of_ble_eq_true rfl, Nat.le_of_ble_eq_true rfl⟩ (Nat.le_of_ble_eq_true rfl) (Nat.le_of_ble_eq_true rfl) ⟨Or.inr (Int32.not_lt.mp h2), rfl, rfl, rfl⟩
set_option maxHeartbeats 400000 in
set_option maxRecDepth 100000 in
/-- linkOf -/
theorem c_linkOf {l : Launch} {D : Dx} {b0 : Nat} {ad : Nat → Nat} {F : Fn} (s : St) (r : Nat) (hC : CRep D ad F s) (hI : Inv s) (hr9 : r < 9) : Ct l D b0 yX6_linkOf (wsA yX6_linkOf cX6_linkOf 2 (some (.object "Shortmessage$Link"))) (rY 7) [.ref (ad 0), .int (nI r)] ad F (pRd (some (.ref (ad (11 + r % 3)))) ad F) noX := by
  refine Ct.of (by decide +kernel) (by simp [Value.category]) (Nat.le_of_ble_eq_true rfl) (fun X eD eb el C Q => ?_)
  subst eD; subst eb; subst el
  have hM := hC.1
  have hmc := hI.2.1
  unfold kMain at hM
  refine V_aload_n C dX6_linkOf_0 rfl ?_
  refine V_iload_n C dX6_linkOf_1 rfl ?_
  refine V_iconst (v := 3) C dX6_linkOf_2 rfl ?_
  refine V_irem C dX6_linkOf_3 (by decide) ?_
  refine V_nm (pk_rem (d := 3) (by omega) (by decide) (by decide)) ?_
  refine V_invV C dX6_linkOf_4 hM rfl (c_linkAt s (nI (r % 3)) hC hI) mv_6_182 rfl (Nat.le_of_ble_eq_true rfl) ⟨Nat.le_of_ble_eq_true rfl, Nat.le_of_ble_eq_true rfl⟩ ⟨Nat.le_of_ble_eq_true rfl, Nat.le_of_ble_eq_true rfl⟩ ?_ ?_
  · intro E ad1 F1 h
    obtain ⟨h1, -⟩ := h
    exact absurd h1 (fun h => h.elim (nI_pos (by omega)) (nI_ge (b := 3) (by omega) (by decide)))
  intro v ad1 F1 hp
  obtain ⟨-, rfl, rfl, rfl⟩ := hp
  rw [nI_clamp (by omega)]
  exact V_areturn C Q dX6_linkOf_7 (Or.inl ⟨_, rfl⟩) (Or.inr ⟨_, rfl⟩) (Nat.le_of_ble_eq_true rfl) (Nat.le_of_ble_eq_true rfl) ⟨rfl, rfl, rfl⟩
abbrev rZ (k : Nat) : Room := { frames := k, cells := 4, slots := 24, locals := 30 * k + 90 }
/-- parts and rows are others -/
theorem CRep.prt {D : Dx} {ad : Nat → Nat} {F G : Fn} {s : St} {pt pw : Nat → Nat} (hC : CRep D ad F s) (hI : Inv s) (hK : ∀ z, z < 100 ∨ 300 ≤ z → G z = F z) (hn : ∀ z, F z = none → G z = none) (hG : kPrt ad G (zMc s) (zMs s) (zPf s) pt pw) : CRep D ad G (sPw (sPt s pt) pw) :=
  have hmc := hI.2.1
  ⟨hC.1.kept (hK 0 (by omega)), TxtK hC.2.1 (hK _ (by omega)) (hK _ (by omega)) (hK _ (by omega)), hC.2.2.1.kept (hK _ (by omega)), hC.2.2.2.1.kept (hK _ (by omega)), hC.2.2.2.2.1.kept (hK _ (by omega)), hC.2.2.2.2.2.1.kept (hK _ (by omega)) (hK _ (by omega)) (hK _ (by omega)) (hK _ (by omega)), hC.2.2.2.2.2.2.1.kept (fun l _ => hK _ (by omega)), hC.2.2.2.2.2.2.2.1.kept (fun r _ => ⟨hK _ (by omega), hK _ (by omega)⟩), hC.2.2.2.2.2.2.2.2.1.kept (fun m _ => ⟨hK _ (by omega), hK _ (by omega), hK _ (by omega)⟩), hG, hC.2.2.2.2.2.2.2.2.2.2.kept (fun c _ _ h => hn c h)⟩
/-- a message's cell, by a part's code -/
theorem msg_of {D : Dx} {ad : Nat → Nat} {F : Fn} {s : St} {m : Nat} (hC : CRep D ad F s) (h : m < zMc s) : F (30 + 3 * m) = some (oB 1 [.int (nI m), .int (nI (zRc s m)), .int (nI (zEn s m)), .ref (ad (11 + zRc s m % 3)), .ref (ad (31 + 3 * m)), .ref (ad (32 + 3 * m)), .int (nI (npL (zMs s m))), .int (nI (zSt s m)), .int (nI (zLk s m))]) := (hC.2.2.2.2.2.2.2.2.1 m h).1
set_option maxHeartbeats 400000 in
set_option maxRecDepth 100000 in
/-- alert -/
theorem c_alert {l : Launch} {D : Dx} {b0 : Nat} {ad : Nat → Nat} {F : Fn} (s : St) (a : Int32) (hC : CRep D ad F s) (hI : Inv s) : Ct l D b0 yX6_alert (wsA yX6_alert cX6_alert 2 (some .int)) (rZ 8) [.ref (ad 0), .int a] ad F (PoS D ad F (spAlert s a)) (PxS D ad F [eIAE] (spAlert s a)) := by
  refine Ct.of (by decide +kernel) (by simp [Value.category]) (Nat.le_of_ble_eq_true rfl) (fun X eD eb el C Q => ?_)
  subst eD; subst eb; subst el
  have hM := hC.1
  have hmc := hI.2.1
  unfold kMain at hM
  refine V_aload_n C dX6_alert_0 rfl ?_
  refine V_iload_n C dX6_alert_1 rfl ?_
  refine V_invV C dX6_alert_2 hM rfl (c_requireReceiver s a hC hI) mv_6_106 rfl (Nat.le_of_ble_eq_true rfl) ⟨Nat.le_of_ble_eq_true rfl, Nat.le_of_ble_eq_true rfl⟩ ⟨Nat.le_of_ble_eq_true rfl, Nat.le_of_ble_eq_true rfl⟩ ?_ ?_
  · intro E ad1 F1 h
    obtain ⟨h1, rfl, rfl, rfl⟩ := h
    rw [show spAlert s a = (1, 0, s) from if_pos h1] at Q
    exact VT_out C Q (Nat.le_of_ble_eq_true rfl) (Nat.le_of_ble_eq_true rfl) ⟨⟨0, rfl, rfl⟩, hC, FrK.rf⟩
  intro v ad1 F1 hp
  obtain ⟨rfl, hga, rfl, rfl⟩ := hp
  obtain ⟨r, hr, rfl⟩ := badI_not (n := 9) (by decide) hga
  have ej : (nI r).toNatClampNeg = r := nI_clamp (by omega)
  obtain ⟨j, hj⟩ : ∃ j, j = r % 3 := ⟨_, rfl⟩
  have hj3 : j < 3 := by omega
  have hk := hC.2.2.2.2.2.2.1 j hj3
  unfold LinkAt at hk
  have hq := hC.2.2.2.2.2.2.2.1 (2 * j) (by omega)
  have hq1 := hq.1
  obtain ⟨-, -, -, -, hnd, hin, -⟩ := hI.2.2.2.2.2.2.1 j hj3
  have hpa := fun c hc => prt_at hC hI (hin c hc).1
  refine V_aload_n C dX6_alert_5 rfl ?_
  refine V_iload_n C dX6_alert_6 rfl ?_
  refine V_invV C dX6_alert_7 hM rfl (c_linkOf s r hC hI hr) mv_6_113 rfl (Nat.le_of_ble_eq_true rfl) ⟨Nat.le_of_ble_eq_true rfl, Nat.le_of_ble_eq_true rfl⟩ ⟨Nat.le_of_ble_eq_true rfl, Nat.le_of_ble_eq_true rfl⟩ (fun _ _ _ h => VT_no h) (fun v ad1 F1 hp => ?_)
  obtain ⟨rfl, rfl, rfl⟩ := hp
  rw [← hj]
  refine V_get C dX6_alert_10 fr_6_125 hk rfl ?_
  refine V_iload_n C dX6_alert_13 rfl ?_
  refine V_invV C dX6_alert_14 hq1 rfl (c_wake (14 + 2 * j) (20 + 2 * j) (nI r) (zRw s (2 * j)) (fun c => ad (30 + 3 * mOf c)) (fun c => nI (pOf c)) (fun c => nI (zPf s c)) (fun c => nI (zPt s c)) (fun c => nI (zPw s c)) (fun c => 30 + 3 * mOf c) _ (fun c => nI (zRc s (mOf c))) hq (fun c hc => (hpa c hc).2.2.2.2.2.2) (fun c hc => ⟨rfl, msg_of hC (hpa c hc).2.2.1, rfl⟩) (List.nodup_append.mp hnd).1) mv_6_220 rfl (Nat.le_of_ble_eq_true rfl) ⟨Nat.le_of_ble_eq_true rfl, Nat.le_of_ble_eq_true rfl⟩ ⟨Nat.le_of_ble_eq_true rfl, Nat.le_of_ble_eq_true rfl⟩ (fun _ _ _ h => VT_no h) (fun v ad1 F1 hp => ?_)
  obtain ⟨rfl, rfl, hw1, hK⟩ := hp
  rw [show spAlert s (nI r) = (0, nI ((zRw s (2 * j)).filter (wkS s r)).length, sPw s (fun c => if c ∈ zRw s (2 * j) ∧ wkS s r c = true then 0 else zPw s c)) by unfold spAlert; rw [if_neg hga, ej, ← hj]] at Q
  refine V_ireturn C Q dX6_alert_17 rfl (Nat.le_of_ble_eq_true rfl) (Nat.le_of_ble_eq_true rfl) ⟨rfl, rfl, hC.prt hI (pt := zPt s) (fun z hz => hK z (fun h => by have := hpa z h; omega)) (fun z hz => ?_) (fun m hm p hp => ?_), fun c hc => ⟨rfl, hK c (fun h => by have := hpa c h; omega)⟩⟩
  · rw [hK z (fun h => by have := (hpa z h).2.2.2.2.2.2; rw [hz] at this; cases this)]; exact hz
  · have hl9 := (npL_spec (hI.2.2.2.2.2.1 m hm).2.1).1
    have e1 : mOf (100 + 10 * m + p) = m := mOf_c (by omega)
    have e2 : pOf (100 + 10 * m + p) = p := pOf_c (by omega)
    by_cases hc : 100 + 10 * m + p ∈ zRw s (2 * j)
    · rw [hw1 _ hc, e1, e2]
      congr 6
      by_cases hwk : wkS s r (100 + 10 * m + p) = true
      · have : wkD (fun c => nI (zRc s (mOf c))) (fun c => nI (zPw s c)) (nI r) (100 + 10 * m + p) = true := hwk
        simp only [this, hc, hwk]; rfl
      · have h2 : wkS s r (100 + 10 * m + p) = false := by simpa using hwk
        have : wkD (fun c => nI (zRc s (mOf c))) (fun c => nI (zPw s c)) (nI r) (100 + 10 * m + p) = false := h2
        simp [this, h2]
    · rw [hK _ hc]
      simp only [hc, false_and, if_false]
      exact hC.2.2.2.2.2.2.2.2.2.1 m hm p hp
/-- a link's two rows hold at most the parts that there can be -/
theorem nodup_len : ∀ {L M : List Nat}, L.Nodup → (∀ x ∈ L, x ∈ M) → L.length ≤ M.length
  | [], _, _, _ => Nat.zero_le _
  | a :: L, M, hn, hs => by
    have ha := hs a List.mem_cons_self
    have h1 := List.nodup_cons.mp hn
    have h2 := nodup_len (L := L) (M := M.erase a) h1.2 (fun x hx => (List.mem_erase_of_ne (by intro e; rw [e] at hx; exact h1.1 hx)).mpr (hs x (List.mem_cons_of_mem _ hx)))
    have h3 := List.length_erase_of_mem ha
    have h4 := List.length_pos_of_mem ha
    simp only [List.length_cons]
    omega
theorem row_cap {s : St} (hI : Inv s) {j : Nat} (hj : j < 3) : (zRw s (2 * j)).length + (zRw s (2 * j + 1)).length ≤ 120 := by
  obtain ⟨-, -, -, -, hnd, hin, hin2⟩ := hI.2.2.2.2.2.2.1 j hj
  have hall : ∀ c ∈ zRw s (2 * j) ++ zRw s (2 * j + 1), InRow s j c := fun c hc => (List.mem_append.mp hc).elim (fun h => (hin c h).1) (fun h => (hin2 c h).1)
  have h2 : ((zRw s (2 * j) ++ zRw s (2 * j + 1)).map (fun c => 6 * mOf c + pOf c)).Nodup := by
    refine List.pairwise_map.mpr (hnd.imp_of_mem (fun {a b} ha hb hab heq => hab ?_))
    obtain ⟨m1, p1, k1, k2, k3, -, -⟩ := hall a ha
    obtain ⟨m2, p2, q1, q2, q3, -, -⟩ := hall b hb
    have l1 := (npL_spec (hI.2.2.2.2.2.1 m1 k1).2.1).1
    have l2 := (npL_spec (hI.2.2.2.2.2.1 m2 q1).2.1).1
    rw [k3, q3, mOf_c (by omega), mOf_c (by omega), pOf_c (by omega), pOf_c (by omega)] at heq
    omega
  have h3 : ∀ x ∈ (zRw s (2 * j) ++ zRw s (2 * j + 1)).map (fun c => 6 * mOf c + pOf c), x ∈ List.range 120 := by
    intro x hx
    obtain ⟨c, hc, rfl⟩ := List.mem_map.mp hx
    obtain ⟨m1, p1, k1, k2, k3, -, -⟩ := hall c hc
    have l1 := (npL_spec (hI.2.2.2.2.2.1 m1 k1).2.1).1
    have hmc := hI.2.1
    rw [k3, mOf_c (by omega), pOf_c (by omega)]
    exact List.mem_range.mpr (by omega)
  have h4 := nodup_len h2 h3
  rw [List.length_map, List.length_append, List.length_range] at h4
  exact h4
theorem down_rep {D : Dx} {ad : Nat → Nat} {F G : Fn} {s : St} {j : Nat} (hC : CRep D ad F s) (hI : Inv s) (hj : j < 3) (g1 : G (11 + j) = some (oB 0 [.ref (ad (14 + 2 * j)), .ref (ad (15 + 2 * j)), .int 0, .int (nI (zWn s j)), .int (nI (zTk s j))]))
    (g2 : RowAt D ad G (14 + 2 * j) (20 + 2 * j) ((zRw s (2 * j + 1)).filter (wtB (fun c => nI (zSt s (mOf c)))) ++ zRw s (2 * j))) (g3 : RowAt D ad G (15 + 2 * j) (21 + 2 * j) [])
    (g4 : ∀ c ∈ zRw s (2 * j + 1), G c = some (oB 2 [.ref (ad (30 + 3 * mOf c)), .int (nI (pOf c)), .int (nI (zPf s c)), .int (if wtB (fun c => nI (zSt s (mOf c))) c then nI (zNow s) else nI (zPt s c)), .int (nI (zPw s c))]))
    (hK : ∀ x, x ∉ [11 + j, 14 + 2 * j, 20 + 2 * j, 15 + 2 * j, 21 + 2 * j] → x ∉ zRw s (2 * j + 1) → G x = F x) : CRep D ad G (downS s j) := by
  obtain ⟨-, -, -, -, hnd, hin, hin2⟩ := hI.2.2.2.2.2.2.1 j hj
  have hmc := hI.2.1
  have hpb := fun c hc => prt_at hC hI (hin2 c hc).1
  have hL : ∀ x, x < 100 → x ∉ zRw s (2 * j + 1) := fun x hx h => by have := hpb x h; omega
  have hk : ∀ x, x < 11 ∨ 26 ≤ x → x < 100 → G x = F x := fun x h1 h2 => hK x (by simp; omega) (hL x h2)
  have hwt : ∀ c, c ∈ zRw s (2 * j + 1) → wtB (fun c => nI (zSt s (mOf c))) c = decide (zSt s (mOf c) = 0) := fun c hc => by
    have h4 := (hI.2.2.2.2.2.1 _ (hpb c hc).2.2.1).2.2.2.2.1
    unfold wtB
    rw [decide_eq_decide]
    exact nI_eq (b := 0) (by omega) (by decide)
  have hfl : (zRw s (2 * j + 1)).filter (wtB (fun c => nI (zSt s (mOf c)))) = (zRw s (2 * j + 1)).filter (fun c => decide (zSt s (mOf c) = 0)) := List.filter_congr hwt
  rw [hfl] at g2
  refine ⟨hC.1.kept (hk 0 (by omega) (by omega)), TxtK hC.2.1 (hk _ (by omega) (by omega)) (hk _ (by omega) (by omega)) (hk _ (by omega) (by omega)), hC.2.2.1.kept (hk _ (by omega) (by omega)), hC.2.2.2.1.kept (hk _ (by omega) (by omega)), hC.2.2.2.2.1.kept (hk _ (by omega) (by omega)), hC.2.2.2.2.2.1.kept (hk _ (by omega) (by omega)) (hk _ (by omega) (by omega)) (hk _ (by omega) (by omega)) (hk _ (by omega) (by omega)), fun l hl => ?_, fun r hr => ?_, hC.2.2.2.2.2.2.2.2.1.kept (fun m hm => ⟨hk _ (by omega) (by omega), hk _ (by omega) (by omega), hk _ (by omega) (by omega)⟩), fun m hm p hp => ?_, fun m h1 h2 => ?_⟩
  · by_cases e : l = j
    · subst e
      show LinkAt ad G (11 + l) _ _ (nI (va_up (zUp s) l 0 l)) _ _
      rw [up_s]
      exact g1
    · show LinkAt ad G (11 + l) _ _ (nI (va_up (zUp s) j 0 l)) _ _
      rw [up_n e]
      exact (hK _ (by simp; omega) (hL _ (by omega))).trans (hC.2.2.2.2.2.2.1 l hl)
  · show RowAt D ad G (14 + r) (20 + r) (va_up (va_up (zRw s) (2 * j) _) (2 * j + 1) [] r)
    by_cases e : r = 2 * j + 1
    · subst e
      rw [up_s, show 14 + (2 * j + 1) = 15 + 2 * j by omega, show 20 + (2 * j + 1) = 21 + 2 * j by omega]
      exact g3
    · rw [up_n e]
      by_cases e2 : r = 2 * j
      · subst e2
        rw [up_s]
        exact g2
      · rw [up_n e2]
        exact (hC.2.2.2.2.2.2.2.1 r hr).kept (hK _ (by simp; omega) (hL _ (by omega))) (hK _ (by simp; omega) (hL _ (by omega)))
  · have hm : m < zMc s := hm
    have hp : p < npL (zMs s m) := hp
    have hl9 := (npL_spec (hI.2.2.2.2.2.1 m hm).2.1).1
    have e1 : mOf (100 + 10 * m + p) = m := mOf_c (by omega)
    have e2 : pOf (100 + 10 * m + p) = p := pOf_c (by omega)
    show G _ = some (oB 2 [.ref (ad (30 + 3 * m)), .int (nI p), .int (nI (zPf s (100 + 10 * m + p))), .int (nI (if 100 + 10 * m + p ∈ zRw s (2 * j + 1) ∧ zSt s (mOf (100 + 10 * m + p)) = 0 then zNow s else zPt s (100 + 10 * m + p))), .int (nI (zPw s (100 + 10 * m + p)))])
    by_cases hc : 100 + 10 * m + p ∈ zRw s (2 * j + 1)
    · rw [g4 _ hc, hwt _ hc, e1, e2]
      by_cases h0 : zSt s m = 0
      · simp [hc, h0]
      · simp [h0]
    · rw [hK _ (by simp; omega) hc]
      simp only [hc, false_and, if_false]
      exact hC.2.2.2.2.2.2.2.2.2.1 m hm p hp
  · have hf := hC.2.2.2.2.2.2.2.2.2.2 m h1 h2
    have hnn : ∀ c, F c = none → c ∉ zRw s (2 * j + 1) := fun c hc h => by have := (hpb c h).2.2.2.2.2.2; rw [hc] at this; cases this
    exact ⟨(hk _ (by omega) (by omega)).trans hf.1, (hk _ (by omega) (by omega)).trans hf.2.1, (hk _ (by omega) (by omega)).trans hf.2.2.1, fun p hp => (hK _ (by simp; omega) (hnn _ (hf.2.2.2 p hp))).trans (hf.2.2.2 p hp)⟩
set_option maxHeartbeats 400000 in
set_option maxRecDepth 100000 in
/-- toggleLink -/
theorem c_toggleLink {l : Launch} {D : Dx} {b0 : Nat} {ad : Nat → Nat} {F : Fn} (s : St) (a : Int32) (hC : CRep D ad F s) (hI : Inv s) : Ct l D b0 yX6_toggleLink (wsA yX6_toggleLink cX6_toggleLink 3 (some .boolean)) (rY 7) [.ref (ad 0), .int a] ad F (PoS D ad F (spTog s a)) (PxS D ad F [eIOB] (spTog s a)) := by
  refine Ct.of (by decide +kernel) (by simp [Value.category]) (Nat.le_of_ble_eq_true rfl) (fun X eD eb el C Q => ?_)
  subst eD; subst eb; subst el
  have hM := hC.1
  have hmc := hI.2.1
  unfold kMain at hM
  refine V_aload_n C dX6_toggleLink_0 rfl ?_
  refine V_iload_n C dX6_toggleLink_1 rfl ?_
  refine V_invV C dX6_toggleLink_2 hM rfl (c_linkAt s a hC hI) mv_6_182 rfl (Nat.le_of_ble_eq_true rfl) ⟨Nat.le_of_ble_eq_true rfl, Nat.le_of_ble_eq_true rfl⟩ ⟨Nat.le_of_ble_eq_true rfl, Nat.le_of_ble_eq_true rfl⟩ ?_ ?_
  · intro E ad1 F1 h
    obtain ⟨h1, rfl, rfl, rfl⟩ := h
    rw [show spTog s a = (1, 0, s) from if_pos h1] at Q
    exact VT_out C Q (Nat.le_of_ble_eq_true rfl) (Nat.le_of_ble_eq_true rfl) ⟨⟨0, rfl, rfl⟩, hC, FrK.rf⟩
  intro v ad1 F1 hp
  obtain ⟨hga, rfl, rfl, rfl⟩ := hp
  obtain ⟨j, hj, rfl⟩ := badI_not (n := 3) (by decide) hga
  have ej : (nI j).toNatClampNeg = j := nI_clamp (by omega)
  rw [ej]
  have hk := hC.2.2.2.2.2.2.1 j hj
  unfold LinkAt at hk
  have hq := hC.2.2.2.2.2.2.2.1 (2 * j) (by omega)
  have hw := hC.2.2.2.2.2.2.2.1 (2 * j + 1) (by omega)
  have hq1 := hq.1
  have hw1 := hw.1
  rw [show 14 + (2 * j + 1) = 15 + 2 * j by omega, show 20 + (2 * j + 1) = 21 + 2 * j by omega] at hw1 hw
  obtain ⟨hup1, hwn1, hwn2, htk5, hnd, hin, hin2⟩ := hI.2.2.2.2.2.2.1 j hj
  refine V_astore_n C dX6_toggleLink_5 (by decide) ?_
  refine V_aload_n C dX6_toggleLink_6 rfl ?_
  refine V_get C dX6_toggleLink_7 fr_6_185 hk rfl ?_
  refine V_ifeq (tgt := 24) C dX6_toggleLink_10 (by decide) (fun hc => ?_) (fun hc => ?_)
  · have hu0 : zUp s j = 0 := (nI_eq (b := 0) (by omega) (by decide)).mp hc
    rw [show spTog s (nI j) = (0, 1, sUp s (va_up (zUp s) j 1)) by unfold spTog; rw [if_neg hga, ej, if_pos hu0]] at Q
    refine V_aload_n C dX6_toggleLink_24 rfl ?_
    refine V_iconst (v := 1) C dX6_toggleLink_25 rfl ?_
    refine G_put C dX6_toggleLink_26 fp_6_185 hk rfl rfl (Nat.le_of_ble_eq_true rfl) (fun F1 hk hfr => ?_)
    dsimp only [List.set] at hk
    refine V_aload_n C dX6_toggleLink_29 rfl ?_
    refine V_get C dX6_toggleLink_30 fr_6_185 hk rfl ?_
    exact V_ireturn C Q dX6_toggleLink_33 rfl (Nat.le_of_ble_eq_true rfl) (Nat.le_of_ble_eq_true rfl) ⟨rfl, rfl, hC.lnk (s1 := sUp s (va_up (zUp s) j 1)) hj hfr (by rw [show zUp (sUp s (va_up (zUp s) j 1)) j = 1 from up_s]; exact hk) (fun l hl => ⟨up_n hl, rfl, rfl⟩) rfl, fun c hc => ⟨rfl, hfr c (by omega)⟩⟩
  · have hu0 : ¬ zUp s j = 0 := fun h => hc (by rw [h]; rfl)
    rw [show spTog s (nI j) = (0, 0, downS s j) by unfold spTog; rw [if_neg hga, ej, if_neg hu0]] at Q
    have hpa := fun c hc => prt_at hC hI (hin c hc).1
    have hpb := fun c hc => prt_at hC hI (hin2 c hc).1
    have hlenB : (zRw s (2 * j)).length + (zRw s (2 * j + 1)).length ≤ 120 := row_cap hI hj
    refine V_aload_n C dX6_toggleLink_13 rfl ?_
    refine V_aload_n C dX6_toggleLink_14 rfl ?_
    refine V_get C dX6_toggleLink_15 fr_6_46 hM rfl ?_
    refine V_invV C dX6_toggleLink_18 hk rfl (c_goDown (11 + j) (14 + 2 * j) (20 + 2 * j) (15 + 2 * j) (21 + 2 * j) (nI (zUp s j)) (nI (zWn s j)) (nI (zTk s j)) (nI (zNow s)) (zRw s (2 * j)) (zRw s (2 * j + 1)) (fun c => ad (30 + 3 * mOf c)) (fun c => nI (pOf c)) (fun c => nI (zPf s c)) (fun c => nI (zPt s c)) (fun c => nI (zPw s c)) (fun c => 30 + 3 * mOf c) _ (fun c => nI (zSt s (mOf c))) hk hq hw (fun c hc => (hpb c hc).2.2.2.2.2.2) (fun c hc => ⟨_, (hpa c hc).2.2.2.2.2.2⟩) (fun c hc => ⟨rfl, msg_of hC (hpb c hc).2.2.1, rfl⟩) ⟨by omega, by omega, by omega, by omega⟩ hlenB (fun c h1 h2 => (List.nodup_append.mp hnd).2.2 c h2 c h1 rfl)) mv_6_188 rfl (Nat.le_of_ble_eq_true rfl) ⟨Nat.le_of_ble_eq_true rfl, Nat.le_of_ble_eq_true rfl⟩ ⟨Nat.le_of_ble_eq_true rfl, Nat.le_of_ble_eq_true rfl⟩ (fun _ _ _ h => VT_no h) (fun v ad1 F1 hp => ?_)
    obtain ⟨rfl, rfl, g1, g2, g3, g4, hK⟩ := hp
    unfold LinkAt at g1
    refine V_goto (tgt := 29) C dX6_toggleLink_21 (by decide) ?_
    refine V_aload_n C dX6_toggleLink_29 rfl ?_
    refine V_get C dX6_toggleLink_30 fr_6_185 g1 rfl ?_
    exact V_ireturn C Q dX6_toggleLink_33 rfl (Nat.le_of_ble_eq_true rfl) (Nat.le_of_ble_eq_true rfl) ⟨rfl, rfl, down_rep hC hI hj g1 g2 g3 g4 hK, fun c hc => ⟨rfl, hK c (by simp; omega) (fun h => by have := hpb c h; omega)⟩⟩
