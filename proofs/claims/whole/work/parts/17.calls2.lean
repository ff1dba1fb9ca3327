/-! ===== the class's calls on links and incoming texts ===== -/
def spQd (s : St) (a : Int32) : Ans := if a < 0 ∨ nI 3 ≤ a then (1, 0, s) else (0, nI (zRw s (2 * a.toNatClampNeg)).length, s)
def spUw (s : St) (a : Int32) : Ans := if a < 0 ∨ nI 3 ≤ a then (1, 0, s) else (0, nI (zRw s (2 * a.toNatClampNeg + 1)).length, s)
def spTok (s : St) (a : Int32) : Ans := if a < 0 ∨ nI 3 ≤ a then (1, 0, s) else (0, nI (zTk s a.toNatClampNeg), s)
def spSetW (s : St) (a b : Int32) : Ans := if a < 0 ∨ nI 3 ≤ a then (1, 0, s) else if b < 1 ∨ 10 < b then (2, 0, s) else (0, nI (zWn s a.toNatClampNeg), sWn s (va_up (zWn s) a.toNatClampNeg b.toNatClampNeg))
/-- a link goes down -/
def downS (s : St) (l : Nat) : St := sPt (sRw (sUp s (va_up (zUp s) l 0)) (va_up (va_up (zRw s) (2 * l) ((zRw s (2 * l + 1)).filter (fun c => decide (zSt s (mOf c) = 0)) ++ zRw s (2 * l))) (2 * l + 1) []))
  (fun c => if c ∈ zRw s (2 * l + 1) ∧ zSt s (mOf c) = 0 then zNow s else zPt s c)
def spTog (s : St) (a : Int32) : Ans := if a < 0 ∨ nI 3 ≤ a then (1, 0, s) else if zUp s a.toNatClampNeg = 0 then (0, 1, sUp s (va_up (zUp s) a.toNatClampNeg 1)) else (0, 0, downS s a.toNatClampNeg)
def wkS (s : St) (r c : Nat) : Bool := wkD (fun c => nI (zRc s (mOf c))) (fun c => nI (zPw s c)) (nI r) c
def spAlert (s : St) (a : Int32) : Ans := if a < 0 ∨ nI 9 ≤ a then (1, 0, s) else
  (0, nI ((zRw s (2 * (a.toNatClampNeg % 3))).filter (wkS s a.toNatClampNeg)).length, sPw s (fun c => if c ∈ zRw s (2 * (a.toNatClampNeg % 3)) ∧ wkS s a.toNatClampNeg c = true then 0 else zPw s c))
def spKey (s : St) (a b : Int32) : Ans := if a ≤ 0 ∨ nI 5 ≤ a ∨ b < -1 ∨ 999 < b then (1, 0, s) else (0, 0, sKw s (gkF (zKw s) a.toNatClampNeg b))
def spCome (s : St) (a b : Int32) : Ans := if a < 0 ∨ nI 9 ≤ a ∨ b < 0 ∨ 999 < b then (1, 0, s) else
  (0, seW (zKw s) (zSe s) (zLa s) a.toNatClampNeg b (nI (zNow s)), sSL s (upd (zSe s) a.toNatClampNeg (seW (zKw s) (zSe s) (zLa s) a.toNatClampNeg b (nI (zNow s)))) (upd (zLa s) a.toNatClampNeg (nI (zNow s))))
def PoV (D : Dx) (ad : Nat → Nat) (F : Fn) (r : Ans) : Pst := fun v ad1 F1 => r.1 = 0 ∧ v = none ∧ CRep D ad1 F1 r.2.2 ∧ FrK ad F ad1 F1
/-- a part's cell, by its code -/
theorem prt_at {D : Dx} {ad : Nat → Nat} {F : Fn} {s : St} {l c : Nat} (hC : CRep D ad F s) (hI : Inv s) (h : InRow s l c) : 100 ≤ c ∧ c < 300 ∧ mOf c < zMc s ∧ c = 100 + 10 * mOf c + pOf c ∧ pOf c < npL (zMs s (mOf c)) ∧ zRc s (mOf c) % 3 = l ∧
    F c = some (oB 2 [.ref (ad (30 + 3 * mOf c)), .int (nI (pOf c)), .int (nI (zPf s c)), .int (nI (zPt s c)), .int (nI (zPw s c))]) := by
  obtain ⟨m, p, h1, h2, h3, h4, h5⟩ := h
  have hmc := hI.2.1
  have hl := (hI.2.2.2.2.2.1 m h1).2.1
  have h6 := (npL_spec hl).1
  have e1 : mOf c = m := by rw [h3]; exact mOf_c (by omega)
  have e2 : pOf c = p := by rw [h3]; exact pOf_c (by omega)
  have h7 := hC.2.2.2.2.2.2.2.2.2.1 m h1 p h2
  rw [← h3] at h7
  rw [e1, e2]
  exact ⟨by omega, by omega, h1, h3, h2, h4, h7⟩
set_option maxHeartbeats 400000 in
set_option maxRecDepth 100000 in
/-- linkAt -/
theorem c_linkAt {l : Launch} {D : Dx} {b0 : Nat} {ad : Nat → Nat} {F : Fn} (s : St) (a : Int32) (hC : CRep D ad F s) (hI : Inv s) : Ct l D b0 yX6_linkAt (wsA yX6_linkAt cX6_linkAt 2 (some (.object "Shortmessage$Link"))) (rX 6) [.ref (ad 0), .int a] ad F (fun v ad1 F1 => ¬ (a < 0 ∨ nI 3 ≤ a) ∧ v = some (.ref (ad (11 + a.toNatClampNeg))) ∧ ad = ad1 ∧ F = F1) (fun E ad1 F1 => (a < 0 ∨ nI 3 ≤ a) ∧ E = eIOB ∧ ad = ad1 ∧ F = F1) := by
  refine Ct.of (by decide +kernel) (by simp [Value.category]) (Nat.le_of_ble_eq_true rfl) (fun X eD eb el C Q => ?_)
  subst eD; subst eb; subst el
  have hM := hC.1
  have hmc := hI.2.1
  unfold kMain at hM
  obtain ⟨fl, hla, hfl⟩ := hC.2.2.2.2.1
  refine V_iload_n C dX6_linkAt_0 rfl ?_
  refine V_iflt (tgt := 13) C dX6_linkAt_1 (by decide) (fun h1 => ?_) (fun h1 => ?_)
  · exact V_throwS C Q rfl (th_IOB 223 _ sw_223) dX6_linkAt_13 dX6_linkAt_16 dX6_linkAt_17 dX6_linkAt_19 dX6_linkAt_22 ⟨Nat.le_of_ble_eq_true rfl, Nat.le_of_ble_eq_true rfl⟩ (Nat.le_of_ble_eq_true rfl) (Nat.le_of_ble_eq_true rfl) ⟨Or.inl h1, rfl, rfl, rfl⟩
  · refine V_iload_n C dX6_linkAt_4 rfl ?_
    refine V_aload_n C dX6_linkAt_5 rfl ?_
    refine V_get C dX6_linkAt_6 fr_6_35 hM rfl ?_
    refine V_alen C dX6_linkAt_9 hla rfl ?_
    refine V_icmplt (tgt := 23) C dX6_linkAt_10 (by decide) (fun h2 => ?_) (fun h2 => ?_)
    · have hga : ¬ (a < 0 ∨ nI 3 ≤ a) := fun h => h.elim h1 (fun h => absurd h2 (Int32.not_lt.mpr h))
      obtain ⟨j, hj, rfl⟩ := badI_not (a := a) (n := 3) (by decide) hga
      have ej : (nI j).toNatClampNeg = j := nI_clamp (by omega)
      rw [ej] at Q
      refine V_aload_n C dX6_linkAt_23 rfl ?_
      refine V_get C dX6_linkAt_24 fr_6_35 hM rfl ?_
      refine V_iload_n C dX6_linkAt_27 rfl ?_
      refine V_aald C dX6_linkAt_28 hla rfl rfl hj (by decide) ?_
      refine V_rf (r' := some (ad (11 + j))) (hfl j hj) ?_
      exact V_areturn C Q dX6_linkAt_29 (Or.inl ⟨_, rfl⟩) (Or.inr ⟨_, rfl⟩) (Nat.le_of_ble_eq_true rfl) (Nat.le_of_ble_eq_true rfl) ⟨hga, rfl, rfl, rfl⟩
    · exact V_throwS C Q rfl (th_IOB 223 _ sw_223) dX6_linkAt_13 dX6_linkAt_16 dX6_linkAt_17 dX6_linkAt_19 dX6_linkAt_22 ⟨Nat.le_of_ble_eq_true rfl, Nat.le_of_ble_eq_true rfl⟩ (Nat.le_of_ble_eq_true rfl) (Nat.le_of_ble_eq_true rfl) ⟨Or.inr (Int32.not_lt.mp h2), rfl, rfl, rfl⟩
set_option maxHeartbeats 400000 in
set_option maxRecDepth 100000 in
/-- queued -/
theorem c_queued {l : Launch} {D : Dx} {b0 : Nat} {ad : Nat → Nat} {F : Fn} (s : St) (a : Int32) (hC : CRep D ad F s) (hI : Inv s) : Ct l D b0 yX6_queued (wsA yX6_queued cX6_queued 2 (some .int)) (rY 7) [.ref (ad 0), .int a] ad F (PoS D ad F (spQd s a)) (PxS D ad F [eIOB] (spQd s a)) := by
  refine Ct.of (by decide +kernel) (by simp [Value.category]) (Nat.le_of_ble_eq_true rfl) (fun X eD eb el C Q => ?_)
  subst eD; subst eb; subst el
  have hM := hC.1
  have hmc := hI.2.1
  unfold kMain at hM
  refine V_aload_n C dX6_queued_0 rfl ?_
  refine V_iload_n C dX6_queued_1 rfl ?_
  refine V_invV C dX6_queued_2 hM rfl (c_linkAt s a hC hI) mv_6_182 rfl (Nat.le_of_ble_eq_true rfl) ⟨Nat.le_of_ble_eq_true rfl, Nat.le_of_ble_eq_true rfl⟩ ⟨Nat.le_of_ble_eq_true rfl, Nat.le_of_ble_eq_true rfl⟩ ?_ ?_
  · intro E ad1 F1 h
    obtain ⟨h1, rfl, rfl, rfl⟩ := h
    rw [show spQd s a = (1, 0, s) from if_pos h1] at Q
    exact VT_out C Q (Nat.le_of_ble_eq_true rfl) (Nat.le_of_ble_eq_true rfl) ⟨⟨0, rfl, rfl⟩, hC, FrK.rf⟩
  intro v ad1 F1 hp
  obtain ⟨hga, rfl, rfl, rfl⟩ := hp
  obtain ⟨j, hj, rfl⟩ := badI_not (n := 3) (by decide) hga
  have ej : (nI j).toNatClampNeg = j := nI_clamp (by omega)
  rw [ej]
  have hk := hC.2.2.2.2.2.2.1 j hj
  unfold LinkAt at hk
  have hq := hC.2.2.2.2.2.2.2.1 (2 * j) (by omega)
  have hw := hC.2.2.2.2.2.2.2.1 (2 * j + 1) (by omega)
  have hq1 := hq.1
  have hw1 := hw.1
  rw [show 14 + (2 * j + 1) = 15 + 2 * j by omega, show 20 + (2 * j + 1) = 21 + 2 * j by omega] at hw1 hw
  rw [show spQd s (nI j) = (0, nI (zRw s (2 * j)).length, s) by unfold spQd; rw [if_neg hga, ej]] at Q
  refine V_get C dX6_queued_5 fr_6_125 hk rfl ?_
  refine V_get C dX6_queued_8 fr_6_196 hq1 rfl ?_
  exact V_ireturn C Q dX6_queued_11 rfl (Nat.le_of_ble_eq_true rfl) (Nat.le_of_ble_eq_true rfl) ⟨rfl, rfl, hC, FrK.rf⟩
set_option maxHeartbeats 400000 in
set_option maxRecDepth 100000 in
/-- underWay -/
theorem c_underWay {l : Launch} {D : Dx} {b0 : Nat} {ad : Nat → Nat} {F : Fn} (s : St) (a : Int32) (hC : CRep D ad F s) (hI : Inv s) : Ct l D b0 yX6_underWay (wsA yX6_underWay cX6_underWay 2 (some .int)) (rY 7) [.ref (ad 0), .int a] ad F (PoS D ad F (spUw s a)) (PxS D ad F [eIOB] (spUw s a)) := by
  refine Ct.of (by decide +kernel) (by simp [Value.category]) (Nat.le_of_ble_eq_true rfl) (fun X eD eb el C Q => ?_)
  subst eD; subst eb; subst el
  have hM := hC.1
  have hmc := hI.2.1
  unfold kMain at hM
  refine V_aload_n C dX6_underWay_0 rfl ?_
  refine V_iload_n C dX6_underWay_1 rfl ?_
  refine V_invV C dX6_underWay_2 hM rfl (c_linkAt s a hC hI) mv_6_182 rfl (Nat.le_of_ble_eq_true rfl) ⟨Nat.le_of_ble_eq_true rfl, Nat.le_of_ble_eq_true rfl⟩ ⟨Nat.le_of_ble_eq_true rfl, Nat.le_of_ble_eq_true rfl⟩ ?_ ?_
  · intro E ad1 F1 h
    obtain ⟨h1, rfl, rfl, rfl⟩ := h
    rw [show spUw s a = (1, 0, s) from if_pos h1] at Q
    exact VT_out C Q (Nat.le_of_ble_eq_true rfl) (Nat.le_of_ble_eq_true rfl) ⟨⟨0, rfl, rfl⟩, hC, FrK.rf⟩
  intro v ad1 F1 hp
  obtain ⟨hga, rfl, rfl, rfl⟩ := hp
  obtain ⟨j, hj, rfl⟩ := badI_not (n := 3) (by decide) hga
  have ej : (nI j).toNatClampNeg = j := nI_clamp (by omega)
  rw [ej]
  have hk := hC.2.2.2.2.2.2.1 j hj
  unfold LinkAt at hk
  have hq := hC.2.2.2.2.2.2.2.1 (2 * j) (by omega)
  have hw := hC.2.2.2.2.2.2.2.1 (2 * j + 1) (by omega)
  have hq1 := hq.1
  have hw1 := hw.1
  rw [show 14 + (2 * j + 1) = 15 + 2 * j by omega, show 20 + (2 * j + 1) = 21 + 2 * j by omega] at hw1 hw
  rw [show spUw s (nI j) = (0, nI (zRw s (2 * j + 1)).length, s) by unfold spUw; rw [if_neg hga, ej]] at Q
  refine V_get C dX6_underWay_5 fr_6_197 hk rfl ?_
  refine V_get C dX6_underWay_8 fr_6_196 hw1 rfl ?_
  exact V_ireturn C Q dX6_underWay_11 rfl (Nat.le_of_ble_eq_true rfl) (Nat.le_of_ble_eq_true rfl) ⟨rfl, rfl, hC, FrK.rf⟩
set_option maxHeartbeats 400000 in
set_option maxRecDepth 100000 in
/-- tokens -/
theorem c_tokens {l : Launch} {D : Dx} {b0 : Nat} {ad : Nat → Nat} {F : Fn} (s : St) (a : Int32) (hC : CRep D ad F s) (hI : Inv s) : Ct l D b0 yX6_tokens (wsA yX6_tokens cX6_tokens 2 (some .int)) (rY 7) [.ref (ad 0), .int a] ad F (PoS D ad F (spTok s a)) (PxS D ad F [eIOB] (spTok s a)) := by
  refine Ct.of (by decide +kernel) (by simp [Value.category]) (Nat.le_of_ble_eq_true rfl) (fun X eD eb el C Q => ?_)
  subst eD; subst eb; subst el
  have hM := hC.1
  have hmc := hI.2.1
  unfold kMain at hM
  refine V_aload_n C dX6_tokens_0 rfl ?_
  refine V_iload_n C dX6_tokens_1 rfl ?_
  refine V_invV C dX6_tokens_2 hM rfl (c_linkAt s a hC hI) mv_6_182 rfl (Nat.le_of_ble_eq_true rfl) ⟨Nat.le_of_ble_eq_true rfl, Nat.le_of_ble_eq_true rfl⟩ ⟨Nat.le_of_ble_eq_true rfl, Nat.le_of_ble_eq_true rfl⟩ ?_ ?_
  · intro E ad1 F1 h
    obtain ⟨h1, rfl, rfl, rfl⟩ := h
    rw [show spTok s a = (1, 0, s) from if_pos h1] at Q
    exact VT_out C Q (Nat.le_of_ble_eq_true rfl) (Nat.le_of_ble_eq_true rfl) ⟨⟨0, rfl, rfl⟩, hC, FrK.rf⟩
  intro v ad1 F1 hp
  obtain ⟨hga, rfl, rfl, rfl⟩ := hp
  obtain ⟨j, hj, rfl⟩ := badI_not (n := 3) (by decide) hga
  have ej : (nI j).toNatClampNeg = j := nI_clamp (by omega)
  rw [ej]
  have hk := hC.2.2.2.2.2.2.1 j hj
  unfold LinkAt at hk
  have hq := hC.2.2.2.2.2.2.2.1 (2 * j) (by omega)
  have hw := hC.2.2.2.2.2.2.2.1 (2 * j + 1) (by omega)
  have hq1 := hq.1
  have hw1 := hw.1
  rw [show 14 + (2 * j + 1) = 15 + 2 * j by omega, show 20 + (2 * j + 1) = 21 + 2 * j by omega] at hw1 hw
  rw [show spTok s (nI j) = (0, nI (zTk s j), s) by unfold spTok; rw [if_neg hga, ej]] at Q
  refine V_get C dX6_tokens_5 fr_6_200 hk rfl ?_
  exact V_ireturn C Q dX6_tokens_8 rfl (Nat.le_of_ble_eq_true rfl) (Nat.le_of_ble_eq_true rfl) ⟨rfl, rfl, hC, FrK.rf⟩
/-- one link's object is another -/
theorem CRep.lnk {D : Dx} {ad : Nat → Nat} {F G : Fn} {s s1 : St} {j : Nat} (hC : CRep D ad F s) (hj : j < 3) (hK : ∀ z, z ≠ 11 + j → G z = F z) (hG : LinkAt ad G (11 + j) (14 + 2 * j) (15 + 2 * j) (nI (zUp s1 j)) (nI (zWn s1 j)) (nI (zTk s1 j)))
    (h1 : ∀ l, l ≠ j → zUp s1 l = zUp s l ∧ zWn s1 l = zWn s l ∧ zTk s1 l = zTk s l) (h2 : s1 = (zNow s, zMc s, zTxt s, zRcp s, zUp s1, zWn s1, zTk s1, zRw s, zSt s, zRc s, zEn s, zLk s, zMs s, zPf s, zPt s, zPw s, zKw s, zSe s, zLa s)) : CRep D ad G s1 := by
  have hL : kLnk ad G (zUp s1) (zWn s1) (zTk s1) := fun l hl => by
    by_cases e : l = j
    · subst e; exact hG
    · obtain ⟨e1, e2, e3⟩ := h1 l e
      rw [e1, e2, e3]
      exact (hK _ (by omega)).trans (hC.2.2.2.2.2.2.1 l hl)
  rw [h2]
  exact ⟨hC.1.kept (hK 0 (by omega)), TxtK hC.2.1 (hK _ (by omega)) (hK _ (by omega)) (hK _ (by omega)), hC.2.2.1.kept (hK _ (by omega)), hC.2.2.2.1.kept (hK _ (by omega)), hC.2.2.2.2.1.kept (hK _ (by omega)), hC.2.2.2.2.2.1.kept (hK _ (by omega)) (hK _ (by omega)) (hK _ (by omega)) (hK _ (by omega)), hL, hC.2.2.2.2.2.2.2.1.kept (fun r _ => ⟨hK _ (by omega), hK _ (by omega)⟩), hC.2.2.2.2.2.2.2.2.1.kept (fun m _ => ⟨hK _ (by omega), hK _ (by omega), hK _ (by omega)⟩), hC.2.2.2.2.2.2.2.2.2.1.kept (fun m _ p _ => hK _ (by omega)), hC.2.2.2.2.2.2.2.2.2.2.kept (fun c h1 _ h => (hK c (by omega)).trans h)⟩
set_option maxHeartbeats 400000 in
set_option maxRecDepth 100000 in
/-- setWindow -/
theorem c_setWindow {l : Launch} {D : Dx} {b0 : Nat} {ad : Nat → Nat} {F : Fn} (s : St) (a b : Int32) (hC : CRep D ad F s) (hI : Inv s) : Ct l D b0 yX6_setWindow (wsA yX6_setWindow cX6_setWindow 5 (some .int)) (rY 7) [.ref (ad 0), .int a, .int b] ad F (PoS D ad F (spSetW s a b)) (PxS D ad F [eIOB, eIAE] (spSetW s a b)) := by
  refine Ct.of (by decide +kernel) (by simp [Value.category]) (Nat.le_of_ble_eq_true rfl) (fun X eD eb el C Q => ?_)
  subst eD; subst eb; subst el
  have hM := hC.1
  have hmc := hI.2.1
  unfold kMain at hM
  refine V_aload_n C dX6_setWindow_0 rfl ?_
  refine V_iload_n C dX6_setWindow_1 rfl ?_
  refine V_invV C dX6_setWindow_2 hM rfl (c_linkAt s a hC hI) mv_6_182 rfl (Nat.le_of_ble_eq_true rfl) ⟨Nat.le_of_ble_eq_true rfl, Nat.le_of_ble_eq_true rfl⟩ ⟨Nat.le_of_ble_eq_true rfl, Nat.le_of_ble_eq_true rfl⟩ ?_ ?_
  · intro E ad1 F1 h
    obtain ⟨h1, rfl, rfl, rfl⟩ := h
    rw [show spSetW s a b = (1, 0, s) from if_pos h1] at Q
    exact VT_out C Q (Nat.le_of_ble_eq_true rfl) (Nat.le_of_ble_eq_true rfl) ⟨⟨0, rfl, rfl⟩, hC, FrK.rf⟩
  intro v ad1 F1 hp
  obtain ⟨hga, rfl, rfl, rfl⟩ := hp
  obtain ⟨j, hj, rfl⟩ := badI_not (n := 3) (by decide) hga
  have ej : (nI j).toNatClampNeg = j := nI_clamp (by omega)
  rw [ej]
  have hk := hC.2.2.2.2.2.2.1 j hj
  unfold LinkAt at hk
  have hq := hC.2.2.2.2.2.2.2.1 (2 * j) (by omega)
  have hw := hC.2.2.2.2.2.2.2.1 (2 * j + 1) (by omega)
  have hq1 := hq.1
  have hw1 := hw.1
  rw [show 14 + (2 * j + 1) = 15 + 2 * j by omega, show 20 + (2 * j + 1) = 21 + 2 * j by omega] at hw1 hw
  refine V_astore_n C dX6_setWindow_5 (by decide) ?_
  refine V_iload_n C dX6_setWindow_6 rfl ?_
  refine V_iconst (v := 1) C dX6_setWindow_7 rfl ?_
  refine V_icmplt (tgt := 17) C dX6_setWindow_8 (by decide) (fun h1 => ?_) (fun h1 => ?_)
  · rw [show spSetW s (nI j) b = (2, 0, s) by unfold spSetW; rw [if_neg hga, if_pos (Or.inl h1)]] at Q
    exact V_throwS C Q rfl (th_IAE 191 _ sw_191) dX6_setWindow_17 dX6_setWindow_20 dX6_setWindow_21 dX6_setWindow_23 dX6_setWindow_26 ⟨Nat.le_of_ble_eq_true rfl, Nat.le_of_ble_eq_true rfl⟩ (Nat.le_of_ble_eq_true rfl) (Nat.le_of_ble_eq_true rfl) ⟨⟨1, rfl, rfl⟩, hC, FrK.rf⟩
  · refine V_iload_n C dX6_setWindow_11 rfl ?_
    refine V_bipush (v := 10) C dX6_setWindow_12 (by decide) ?_
    refine V_icmple (tgt := 27) C dX6_setWindow_14 (by decide) (fun h2 => ?_) (fun h2 => ?_)
    · obtain ⟨k, hk9, rfl⟩ := nI_of2 (n := 10) (M := 10) rfl (fun h => h1 (Int32.lt_trans h (by decide))) h2
      have ek : (nI k).toNatClampNeg = k := nI_clamp (by omega)
      rw [show spSetW s (nI j) (nI k) = (0, nI (zWn s j), sWn s (va_up (zWn s) j k)) by unfold spSetW; rw [if_neg hga, if_neg (fun h => h.elim h1 (fun h => absurd h2 (Int32.not_le.mpr h))), ej, ek]] at Q
      refine V_aload_n C dX6_setWindow_27 rfl ?_
      refine V_get C dX6_setWindow_28 fr_6_193 hk rfl ?_
      refine V_istore C dX6_setWindow_31 (by decide) ?_
      refine V_aload_n C dX6_setWindow_33 rfl ?_
      refine V_iload_n C dX6_setWindow_34 rfl ?_
      refine G_put C dX6_setWindow_35 fp_6_193 hk rfl rfl (Nat.le_of_ble_eq_true rfl) (fun F1 hk hfr => ?_)
      dsimp only [List.set] at hk
      refine V_iload C dX6_setWindow_38 rfl ?_
      exact V_ireturn C Q dX6_setWindow_40 rfl (Nat.le_of_ble_eq_true rfl) (Nat.le_of_ble_eq_true rfl) ⟨rfl, rfl, hC.lnk (s1 := sWn s (va_up (zWn s) j k)) hj hfr (by rw [show zWn (sWn s (va_up (zWn s) j k)) j = k from up_s]; exact hk) (fun l hl => ⟨rfl, up_n hl, rfl⟩) rfl, fun c hc => ⟨rfl, hfr c (by omega)⟩⟩
    · rw [show spSetW s (nI j) b = (2, 0, s) by unfold spSetW; rw [if_neg hga, if_pos (Or.inr (Int32.not_le.mp h2))]] at Q
      exact V_throwS C Q rfl (th_IAE 191 _ sw_191) dX6_setWindow_17 dX6_setWindow_20 dX6_setWindow_21 dX6_setWindow_23 dX6_setWindow_26 ⟨Nat.le_of_ble_eq_true rfl, Nat.le_of_ble_eq_true rfl⟩ (Nat.le_of_ble_eq_true rfl) (Nat.le_of_ble_eq_true rfl) ⟨⟨1, rfl, rfl⟩, hC, FrK.rf⟩
/-- the reception is another -/
theorem CRep.rec {D : Dx} {ad : Nat → Nat} {F G : Fn} {s : St} {kw se la : Nat → Int32} (hC : CRep D ad F s) (hK : ∀ z, z ≠ 8 → z ≠ 9 → z ≠ 10 → G z = F z) (hG : kRec D ad G kw se la) : CRep D ad G (sSL (sKw s kw) se la) :=
  ⟨hC.1.kept (hK 0 (by omega) (by omega) (by omega)), TxtK hC.2.1 (hK _ (by omega) (by omega) (by omega)) (hK _ (by omega) (by omega) (by omega)) (hK _ (by omega) (by omega) (by omega)), hC.2.2.1.kept (hK _ (by omega) (by omega) (by omega)), hC.2.2.2.1.kept (hK _ (by omega) (by omega) (by omega)), hC.2.2.2.2.1.kept (hK _ (by omega) (by omega) (by omega)), hG, hC.2.2.2.2.2.2.1.kept (fun l _ => hK _ (by omega) (by omega) (by omega)), hC.2.2.2.2.2.2.2.1.kept (fun r _ => ⟨hK _ (by omega) (by omega) (by omega), hK _ (by omega) (by omega) (by omega)⟩), hC.2.2.2.2.2.2.2.2.1.kept (fun m _ => ⟨hK _ (by omega) (by omega) (by omega), hK _ (by omega) (by omega) (by omega), hK _ (by omega) (by omega) (by omega)⟩), hC.2.2.2.2.2.2.2.2.2.1.kept (fun m _ p _ => hK _ (by omega) (by omega) (by omega)), hC.2.2.2.2.2.2.2.2.2.2.kept (fun c h1 _ h => (hK c (by omega) (by omega) (by omega)).trans h)⟩
set_option maxHeartbeats 400000 in
set_option maxRecDepth 100000 in
/-- setKeyword -/
theorem c_setKeyword {l : Launch} {D : Dx} {b0 : Nat} {ad : Nat → Nat} {F : Fn} (s : St) (a b : Int32) (hC : CRep D ad F s) (hI : Inv s) : Ct l D b0 yX6_setKeyword (wsA yX6_setKeyword cX6_setKeyword 3 none) (rX 6) [.ref (ad 0), .int a, .int b] ad F (PoV D ad F (spKey s a b)) (PxS D ad F [eIAE] (spKey s a b)) := by
  refine Ct.of (by decide +kernel) (by simp [Value.category]) (Nat.le_of_ble_eq_true rfl) (fun X eD eb el C Q => ?_)
  subst eD; subst eb; subst el
  have hM := hC.1
  have hmc := hI.2.1
  unfold kMain at hM
  obtain ⟨hrc, ⟨f8, h8, hf8⟩, h9, h10⟩ := hC.2.2.2.2.2.1
  have hrc0 := hrc
  unfold RcpAt at hrc
  refine V_iload_n C dX6_setKeyword_0 rfl ?_
  refine V_ifle (tgt := 21) C dX6_setKeyword_1 (by decide) (fun h1 => ?_) (fun h1 => ?_)
  · rw [show spKey s a b = (1, 0, s) from if_pos (Or.inl h1)] at Q
    exact V_throwS C Q rfl (th_IAE 250 _ sw_250) dX6_setKeyword_21 dX6_setKeyword_24 dX6_setKeyword_25 dX6_setKeyword_27 dX6_setKeyword_30 ⟨Nat.le_of_ble_eq_true rfl, Nat.le_of_ble_eq_true rfl⟩ (Nat.le_of_ble_eq_true rfl) (Nat.le_of_ble_eq_true rfl) ⟨⟨0, rfl, rfl⟩, hC, FrK.rf⟩
  · refine V_iload_n C dX6_setKeyword_4 rfl ?_
    refine V_iconst (v := 5) C dX6_setKeyword_5 rfl ?_
    refine V_icmpge (tgt := 21) C dX6_setKeyword_6 (by decide) (fun h2 => ?_) (fun h2 => ?_)
    · rw [show spKey s a b = (1, 0, s) from if_pos (Or.inr (Or.inl h2))] at Q
      exact V_throwS C Q rfl (th_IAE 250 _ sw_250) dX6_setKeyword_21 dX6_setKeyword_24 dX6_setKeyword_25 dX6_setKeyword_27 dX6_setKeyword_30 ⟨Nat.le_of_ble_eq_true rfl, Nat.le_of_ble_eq_true rfl⟩ (Nat.le_of_ble_eq_true rfl) (Nat.le_of_ble_eq_true rfl) ⟨⟨0, rfl, rfl⟩, hC, FrK.rf⟩
    · refine V_iload_n C dX6_setKeyword_9 rfl ?_
      refine V_iconst (v := (-1)) C dX6_setKeyword_10 rfl ?_
      refine V_icmplt (tgt := 21) C dX6_setKeyword_11 (by decide) (fun h3 => ?_) (fun h3 => ?_)
      · rw [show spKey s a b = (1, 0, s) from if_pos (Or.inr (Or.inr (Or.inl h3)))] at Q
        exact V_throwS C Q rfl (th_IAE 250 _ sw_250) dX6_setKeyword_21 dX6_setKeyword_24 dX6_setKeyword_25 dX6_setKeyword_27 dX6_setKeyword_30 ⟨Nat.le_of_ble_eq_true rfl, Nat.le_of_ble_eq_true rfl⟩ (Nat.le_of_ble_eq_true rfl) (Nat.le_of_ble_eq_true rfl) ⟨⟨0, rfl, rfl⟩, hC, FrK.rf⟩
      · refine V_iload_n C dX6_setKeyword_14 rfl ?_
        refine V_sipush (v := 999) C dX6_setKeyword_15 (by decide) ?_
        refine V_icmple (tgt := 31) C dX6_setKeyword_18 (by decide) (fun h4 => ?_) (fun h4 => ?_)
        · have hgd : ¬ (a ≤ 0 ∨ nI 5 ≤ a ∨ b < -1 ∨ 999 < b) := by
            rintro (h | h | h | h)
            · exact h1 h
            · exact h2 h
            · exact h3 h
            · exact absurd h4 (Int32.not_le.mpr h)
          obtain ⟨j, hj, rfl⟩ := badI_not (a := a) (n := 5) (by decide) (fun h => h.elim (fun h => h1 (Int32.le_of_lt h)) h2)
          have ej : (nI j).toNatClampNeg = j := nI_clamp (by omega)
          rw [show spKey s (nI j) b = (0, 0, sKw s (gkF (zKw s) j b)) by unfold spKey; rw [if_neg hgd, ej]] at Q
          refine V_aload_n C dX6_setKeyword_31 rfl ?_
          refine V_get C dX6_setKeyword_32 fr_6_42 hM rfl ?_
          refine V_iload_n C dX6_setKeyword_35 rfl ?_
          refine V_iload_n C dX6_setKeyword_36 rfl ?_
          refine V_invV C dX6_setKeyword_37 hrc rfl (c_giveKeyword 7 8 9 10 j f8 b hrc0 h8 hj) mv_6_252 rfl (Nat.le_of_ble_eq_true rfl) ⟨Nat.le_of_ble_eq_true rfl, Nat.le_of_ble_eq_true rfl⟩ ⟨Nat.le_of_ble_eq_true rfl, Nat.le_of_ble_eq_true rfl⟩ (fun _ _ _ h => VT_no h) (fun v ad1 F1 hp => ?_)
          obtain ⟨rfl, rfl, ⟨g, hg, hgj⟩, hK⟩ := hp
          refine V_return C Q dX6_setKeyword_40 (Nat.le_of_ble_eq_true rfl) (Nat.le_of_ble_eq_true rfl) ⟨rfl, rfl, hC.rec (kw := gkF (zKw s) j b) (se := zSe s) (la := zLa s) (fun z h _ _ => hK z h) ⟨(hK 7 (by decide)).trans hrc, ⟨g, hg, fun i hi => ?_⟩, h9.imp fun f hf => ⟨(hK 9 (by decide)).trans hf.1, hf.2⟩, h10.imp fun f hf => ⟨(hK 10 (by decide)).trans hf.1, hf.2⟩⟩, fun c hc => ⟨rfl, hK c (by omega)⟩⟩
          rw [hgj i hi]
          simp only [gkF]
          rw [hf8 i hi]
        · rw [show spKey s a b = (1, 0, s) from if_pos (Or.inr (Or.inr (Or.inr (Int32.not_le.mp h4))))] at Q
          exact V_throwS C Q rfl (th_IAE 250 _ sw_250) dX6_setKeyword_21 dX6_setKeyword_24 dX6_setKeyword_25 dX6_setKeyword_27 dX6_setKeyword_30 ⟨Nat.le_of_ble_eq_true rfl, Nat.le_of_ble_eq_true rfl⟩ (Nat.le_of_ble_eq_true rfl) (Nat.le_of_ble_eq_true rfl) ⟨⟨0, rfl, rfl⟩, hC, FrK.rf⟩
set_option maxHeartbeats 400000 in
set_option maxRecDepth 100000 in
/-- come -/
theorem c_come {l : Launch} {D : Dx} {b0 : Nat} {ad : Nat → Nat} {F : Fn} (s : St) (a b : Int32) (hC : CRep D ad F s) (hI : Inv s) : Ct l D b0 yX6_come (wsA yX6_come cX6_come 3 (some .int)) (rX 6) [.ref (ad 0), .int a, .int b] ad F (PoS D ad F (spCome s a b)) (PxS D ad F [eIAE] (spCome s a b)) := by
  refine Ct.of (by decide +kernel) (by simp [Value.category]) (Nat.le_of_ble_eq_true rfl) (fun X eD eb el C Q => ?_)
  subst eD; subst eb; subst el
  have hM := hC.1
  have hmc := hI.2.1
  unfold kMain at hM
  obtain ⟨hrc, ⟨f8, h8, hf8⟩, ⟨f9, h9, hf9⟩, f10, h10, hf10⟩ := hC.2.2.2.2.2.1
  have hrc0 := hrc
  unfold RcpAt at hrc
  refine V_iload_n C dX6_come_0 rfl ?_
  refine V_iflt (tgt := 21) C dX6_come_1 (by decide) (fun h1 => ?_) (fun h1 => ?_)
  · rw [show spCome s a b = (1, 0, s) from if_pos (Or.inl h1)] at Q
    exact V_throwS C Q rfl (th_IAE 255 _ sw_255) dX6_come_21 dX6_come_24 dX6_come_25 dX6_come_27 dX6_come_30 ⟨Nat.le_of_ble_eq_true rfl, Nat.le_of_ble_eq_true rfl⟩ (Nat.le_of_ble_eq_true rfl) (Nat.le_of_ble_eq_true rfl) ⟨⟨0, rfl, rfl⟩, hC, FrK.rf⟩
  · refine V_iload_n C dX6_come_4 rfl ?_
    refine V_bipush (v := 9) C dX6_come_5 (by decide) ?_
    refine V_icmpge (tgt := 21) C dX6_come_7 (by decide) (fun h2 => ?_) (fun h2 => ?_)
    · rw [show spCome s a b = (1, 0, s) from if_pos (Or.inr (Or.inl h2))] at Q
      exact V_throwS C Q rfl (th_IAE 255 _ sw_255) dX6_come_21 dX6_come_24 dX6_come_25 dX6_come_27 dX6_come_30 ⟨Nat.le_of_ble_eq_true rfl, Nat.le_of_ble_eq_true rfl⟩ (Nat.le_of_ble_eq_true rfl) (Nat.le_of_ble_eq_true rfl) ⟨⟨0, rfl, rfl⟩, hC, FrK.rf⟩
    · refine V_iload_n C dX6_come_10 rfl ?_
      refine V_iflt (tgt := 21) C dX6_come_11 (by decide) (fun h3 => ?_) (fun h3 => ?_)
      · rw [show spCome s a b = (1, 0, s) from if_pos (Or.inr (Or.inr (Or.inl h3)))] at Q
        exact V_throwS C Q rfl (th_IAE 255 _ sw_255) dX6_come_21 dX6_come_24 dX6_come_25 dX6_come_27 dX6_come_30 ⟨Nat.le_of_ble_eq_true rfl, Nat.le_of_ble_eq_true rfl⟩ (Nat.le_of_ble_eq_true rfl) (Nat.le_of_ble_eq_true rfl) ⟨⟨0, rfl, rfl⟩, hC, FrK.rf⟩
      · refine V_iload_n C dX6_come_14 rfl ?_
        refine V_sipush (v := 999) C dX6_come_15 (by decide) ?_
        refine V_icmple (tgt := 31) C dX6_come_18 (by decide) (fun h4 => ?_) (fun h4 => ?_)
        · have hgd : ¬ (a < 0 ∨ nI 9 ≤ a ∨ b < 0 ∨ 999 < b) := by
            rintro (h | h | h | h)
            · exact h1 h
            · exact h2 h
            · exact h3 h
            · exact absurd h4 (Int32.not_le.mpr h)
          obtain ⟨j, hj, rfl⟩ := badI_not (a := a) (n := 9) (by decide) (fun h => h.elim h1 h2)
          have ej : (nI j).toNatClampNeg = j := nI_clamp (by omega)
          have e8 : svW f8 b = svW (zKw s) b := by unfold svW; rw [hf8 1 (by decide), hf8 2 (by decide), hf8 3 (by decide), hf8 4 (by decide)]
          have e9 : seW f8 f9 f10 j b (nI (zNow s)) = seW (zKw s) (zSe s) (zLa s) j b (nI (zNow s)) := by unfold seW; rw [e8, hf9 j hj, hf10 j hj]
          obtain ⟨r, hr⟩ : ∃ r, r = seW (zKw s) (zSe s) (zLa s) j b (nI (zNow s)) := ⟨_, rfl⟩
          rw [show spCome s (nI j) b = (0, r, sSL s (upd (zSe s) j r) (upd (zLa s) j (nI (zNow s)))) by unfold spCome; rw [if_neg hgd, ej, ← hr]] at Q
          refine V_aload_n C dX6_come_31 rfl ?_
          refine V_get C dX6_come_32 fr_6_42 hM rfl ?_
          refine V_iload_n C dX6_come_35 rfl ?_
          refine V_iload_n C dX6_come_36 rfl ?_
          refine V_aload_n C dX6_come_37 rfl ?_
          refine V_get C dX6_come_38 fr_6_46 hM rfl ?_
          refine V_invV C dX6_come_41 hrc rfl (c_serviceFor 7 8 9 10 j f8 f9 f10 b (nI (zNow s)) hrc0 h8 h9 h10 hj (by decide)) mv_6_257 rfl (Nat.le_of_ble_eq_true rfl) ⟨Nat.le_of_ble_eq_true rfl, Nat.le_of_ble_eq_true rfl⟩ ⟨Nat.le_of_ble_eq_true rfl, Nat.le_of_ble_eq_true rfl⟩ (fun _ _ _ h => VT_no h) (fun v ad1 F1 hp => ?_)
          obtain ⟨rfl, rfl, g9, g10, hK⟩ := hp
          rw [e9, ← hr] at g9
          refine V_nm (w := r) (by rw [e9, hr]) ?_
          refine V_ireturn C Q dX6_come_44 rfl (Nat.le_of_ble_eq_true rfl) (Nat.le_of_ble_eq_true rfl) ⟨rfl, rfl, hC.rec (kw := zKw s) (se := upd (zSe s) j r) (la := upd (zLa s) j (nI (zNow s))) (fun z _ h1 h2 => hK z (by simp [h1, h2])) ⟨(hK 7 (by decide)).trans hrc, ⟨f8, (hK 8 (by decide)).trans h8, hf8⟩, ⟨_, g9, fun i hi => ?_⟩, _, g10, fun i hi => ?_⟩, fun c hc => ⟨rfl, hK c (by simp; omega)⟩⟩
          · simp only [upd]; split
            · rfl
            · exact hf9 i hi
          · simp only [upd]; split
            · rfl
            · exact hf10 i hi
        · rw [show spCome s a b = (1, 0, s) from if_pos (Or.inr (Or.inr (Or.inr (Int32.not_le.mp h4))))] at Q
          exact V_throwS C Q rfl (th_IAE 255 _ sw_255) dX6_come_21 dX6_come_24 dX6_come_25 dX6_come_27 dX6_come_30 ⟨Nat.le_of_ble_eq_true rfl, Nat.le_of_ble_eq_true rfl⟩ (Nat.le_of_ble_eq_true rfl) (Nat.le_of_ble_eq_true rfl) ⟨⟨0, rfl, rfl⟩, hC, FrK.rf⟩
