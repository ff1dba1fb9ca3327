/-! ===== THE CALLS, as functions of the state; the class's calls on the text, and what only reads ===== -/
def spWrite (s : St) (a b : Int32) : Ans := if a < 0 ∨ 999 < a ∨ b < 1 ∨ 200 < b then (1, 0, s) else if 400 < (zTxt s).length + b.toNatClampNeg then (2, 0, s) else (0, nI ((zTxt s).length + b.toNatClampNeg), sTxt s (zTxt s ++ List.replicate b.toNatClampNeg a.toNatClampNeg))
/-- the room over calls that may throw: what those make stands in it too -/
abbrev rY (k : Nat) : Room := { frames := k, cells := 2, slots := 12, locals := 30 * k + 90 }
def spErase (s : St) : Ans := (0, nI (zTxt s).length, sTxt s [])
def spWide (s : St) : Ans := (0, b2i (wideL (zTxt s)), s)
def spSept (s : St) : Ans := if wideL (zTxt s) = true then (1, 0, s) else (0, nI (septL (zTxt s)), s)
def spParts (s : St) : Ans := (0, nI (npL (zTxt s)), s)
/-- a number that is no place below n -/
def badI (a : Int32) (n : Nat) : Prop := a < 0 ∨ nI n ≤ a
theorem badI_iff {j n : Nat} (hj : j < 2 ^ 31) (hn : n < 2 ^ 31) : badI (nI j) n ↔ n ≤ j := by
  unfold badI
  constructor
  · rintro (h | h)
    · exact absurd h (nI_pos hj)
    · exact (nI_leI hn hj).mp h
  · intro h
    exact Or.inr (nI_le h hj)
theorem badI_not {a : Int32} {n : Nat} (hn : n < 2 ^ 31) (h : ¬ badI a n) : ∃ j, j < n ∧ a = nI j := by
  rcases pk_ix a hn with h1 | h1 | h1
  · exact absurd (Or.inl h1) h
  · exact absurd (Or.inr h1) h
  · exact h1
def spSigns (s : St) (a : Int32) : Ans := if a < 0 ∨ nI (npL (zTxt s)) ≤ a then (1, 0, s) else (0, nI (posL (zTxt s) (a.toNatClampNeg + 1) - posL (zTxt s) a.toNatClampNeg), s)
def spOcts (s : St) (a : Int32) : Ans := if a < 0 ∨ nI (npL (zTxt s)) ≤ a then (1, 0, s) else (0, nI (octN (zTxt s) a.toNatClampNeg), s)
def spOct (s : St) (a b : Int32) : Ans := if a < 0 ∨ nI (npL (zTxt s)) ≤ a then (1, 0, s) else if b < 0 ∨ nI (octN (zTxt s) a.toNatClampNeg) ≤ b then (1, 0, s) else (0, octI (zTxt s) a.toNatClampNeg b.toNatClampNeg, s)
def spState (s : St) (a : Int32) : Ans := if a < 0 ∨ nI (zMc s) ≤ a then (1, 0, s) else (0, nI (zSt s a.toNatClampNeg), s)
def spMiss (s : St) (a : Int32) : Ans := if a < 0 ∨ nI (zMc s) ≤ a then (1, 0, s) else (0, nI (zLk s a.toNatClampNeg), s)
def joinI (L : List Nat) (lk place : Nat) : Int32 := if lk.testBit (pwF (posL L) place (npL L)) = true then -1 else nI (L.getD place 0)
def spJoin (s : St) (a b : Int32) : Ans := if a < 0 ∨ nI (zMc s) ≤ a then (1, 0, s) else if b < 0 ∨ nI (zMs s a.toNatClampNeg).length ≤ b then (1, 0, s) else (0, joinI (zMs s a.toNatClampNeg) (zLk s a.toNatClampNeg) b.toNatClampNeg, s)
def spRcps (s : St) : Ans := (0, nI (zRcp s).length, s)
def spRcp (s : St) (a : Int32) : Ans := if a < 0 ∨ nI (zRcp s).length ≤ a then (1, 0, s) else (0, nI ((zRcp s).getD a.toNatClampNeg 0), s)
def spTime (s : St) : Ans := (0, nI (zNow s), s)
set_option maxHeartbeats 400000 in
set_option maxRecDepth 100000 in
/-- requirePart -/
theorem c_requirePart {l : Launch} {D : Dx} {b0 : Nat} {ad : Nat → Nat} {F : Fn} (s : St) (a : Int32) (hC : CRep D ad F s) (hI : Inv s) : Ct l D b0 yX6_requirePart (wsA yX6_requirePart cX6_requirePart 2 none) (rX 6) [.ref (ad 0), .int a] ad F (fun v ad1 F1 => v = none ∧ ¬ (a < 0 ∨ nI (npL (zTxt s)) ≤ a) ∧ ad = ad1 ∧ F = F1) (fun E ad1 F1 => (a < 0 ∨ nI (npL (zTxt s)) ≤ a) ∧ E = eIOB ∧ ad = ad1 ∧ F = F1) := by
  refine Ct.of (by decide +kernel) (by simp [Value.category]) (Nat.le_of_ble_eq_true rfl) (fun X eD eb el C Q => ?_)
  subst eD; subst eb; subst el
  have hM := hC.1
  have hT := hC.2.1
  have ht := hT.1
  have hl := hT.2.1.1
  have hnp := (npL_spec hl).1
  unfold kMain at hM
  unfold TxO at ht
  refine V_iload_n C dX6_requirePart_0 rfl ?_
  refine V_iflt (tgt := 15) C dX6_requirePart_1 (by decide) (fun h1 => ?_) (fun h1 => ?_)
  · exact V_throwS C Q rfl (th_IOB 104 _ sw_104) dX6_requirePart_15 dX6_requirePart_18 dX6_requirePart_19 dX6_requirePart_21 dX6_requirePart_24 ⟨Nat.le_of_ble_eq_true rfl, Nat.le_of_ble_eq_true rfl⟩ (Nat.le_of_ble_eq_true rfl) (Nat.le_of_ble_eq_true rfl) ⟨Or.inl h1, rfl, rfl, rfl⟩
  · refine V_iload_n C dX6_requirePart_4 rfl ?_
    refine V_aload_n C dX6_requirePart_5 rfl ?_
    refine V_get C dX6_requirePart_6 fr_6_10 hM rfl ?_
    refine V_get C dX6_requirePart_9 fr_6_81 ht rfl ?_
    refine V_icmplt (tgt := 25) C dX6_requirePart_12 (by decide) (fun h2 => ?_) (fun h2 => ?_)
    · exact V_return C Q dX6_requirePart_25 (Nat.le_of_ble_eq_true rfl) (Nat.le_of_ble_eq_true rfl) ⟨rfl, fun h => h.elim h1 (fun h => absurd h2 (Int32.not_lt.mpr h)), rfl, rfl⟩
    · exact V_throwS C Q rfl (th_IOB 104 _ sw_104) dX6_requirePart_15 dX6_requirePart_18 dX6_requirePart_19 dX6_requirePart_21 dX6_requirePart_24 ⟨Nat.le_of_ble_eq_true rfl, Nat.le_of_ble_eq_true rfl⟩ (Nat.le_of_ble_eq_true rfl) (Nat.le_of_ble_eq_true rfl) ⟨Or.inr (Int32.not_lt.mp h2), rfl, rfl, rfl⟩
set_option maxHeartbeats 400000 in
set_option maxRecDepth 100000 in
/-- write -/
theorem c_write {l : Launch} {D : Dx} {b0 : Nat} {ad : Nat → Nat} {F : Fn} (s : St) (a b : Int32) (hC : CRep D ad F s) (hI : Inv s) : Ct l D b0 yX6_write (wsA yX6_write cX6_write 3 (some .int)) (rX 6) [.ref (ad 0), .int a, .int b] ad F (PoS D ad F (spWrite s a b)) (PxS D ad F [eIAE, eISE] (spWrite s a b)) := by
  refine Ct.of (by decide +kernel) (by simp [Value.category]) (Nat.le_of_ble_eq_true rfl) (fun X eD eb el C Q => ?_)
  subst eD; subst eb; subst el
  have hM := hC.1
  have hT := hC.2.1
  have ht := hT.1
  have hl := hT.2.1.1
  have hnp := (npL_spec hl).1
  unfold kMain at hM
  unfold TxO at ht
  refine V_iload_n C dX6_write_0 rfl ?_
  refine V_iflt (tgt := 23) C dX6_write_1 (by decide) (fun h1 => ?_) (fun h1 => ?_)
  · rw [show spWrite s a b = (1, 0, s) from if_pos (Or.inl h1)] at Q
    exact V_throwS C Q rfl (th_IAE 52 _ sw_52) dX6_write_23 dX6_write_26 dX6_write_27 dX6_write_29 dX6_write_32 ⟨Nat.le_of_ble_eq_true rfl, Nat.le_of_ble_eq_true rfl⟩ (Nat.le_of_ble_eq_true rfl) (Nat.le_of_ble_eq_true rfl) ⟨⟨0, rfl, rfl⟩, hC, FrK.rf⟩
  · refine V_iload_n C dX6_write_4 rfl ?_
    refine V_sipush (v := 999) C dX6_write_5 (by decide) ?_
    refine V_icmpgt (tgt := 23) C dX6_write_8 (by decide) (fun h2 => ?_) (fun h2 => ?_)
    · rw [show spWrite s a b = (1, 0, s) from if_pos (Or.inr (Or.inl h2))] at Q
      exact V_throwS C Q rfl (th_IAE 52 _ sw_52) dX6_write_23 dX6_write_26 dX6_write_27 dX6_write_29 dX6_write_32 ⟨Nat.le_of_ble_eq_true rfl, Nat.le_of_ble_eq_true rfl⟩ (Nat.le_of_ble_eq_true rfl) (Nat.le_of_ble_eq_true rfl) ⟨⟨0, rfl, rfl⟩, hC, FrK.rf⟩
    · refine V_iload_n C dX6_write_11 rfl ?_
      refine V_iconst (v := 1) C dX6_write_12 rfl ?_
      refine V_icmplt (tgt := 23) C dX6_write_13 (by decide) (fun h3 => ?_) (fun h3 => ?_)
      · rw [show spWrite s a b = (1, 0, s) from if_pos (Or.inr (Or.inr (Or.inl h3)))] at Q
        exact V_throwS C Q rfl (th_IAE 52 _ sw_52) dX6_write_23 dX6_write_26 dX6_write_27 dX6_write_29 dX6_write_32 ⟨Nat.le_of_ble_eq_true rfl, Nat.le_of_ble_eq_true rfl⟩ (Nat.le_of_ble_eq_true rfl) (Nat.le_of_ble_eq_true rfl) ⟨⟨0, rfl, rfl⟩, hC, FrK.rf⟩
      · refine V_iload_n C dX6_write_16 rfl ?_
        refine V_sipush (v := 200) C dX6_write_17 (by decide) ?_
        refine V_icmple (tgt := 33) C dX6_write_20 (by decide) (fun h4 => ?_) (fun h4 => ?_)
        · have hgd : ¬ (a < 0 ∨ 999 < a ∨ b < 1 ∨ 200 < b) := by
            rintro (h | h | h | h)
            · exact h1 h
            · exact h2 h
            · exact h3 h
            · exact absurd h4 (Int32.not_le.mpr h)
          obtain ⟨x, hx, rfl⟩ := nI_of2 (n := 999) (M := 999) rfl h1 (Int32.not_lt.mp h2)
          obtain ⟨m, hm, rfl⟩ := nI_of2 (n := 200) (M := 200) rfl (fun h => h3 (Int32.lt_trans h (by decide))) h4
          have hm0 : 0 < m := Nat.lt_of_not_le fun h => h3 (nI_lt (a := m) (b := 1) (by omega) (by decide))
          have ex : (nI x).toNatClampNeg = x := nI_clamp (by omega)
          have em : (nI m).toNatClampNeg = m := nI_clamp (by omega)
          refine V_aload_n C dX6_write_33 rfl ?_
          refine V_get C dX6_write_34 fr_6_10 hM rfl ?_
          refine V_get C dX6_write_37 fr_6_57 ht rfl ?_
          refine V_iload_n C dX6_write_40 rfl ?_
          refine V_iadd C dX6_write_41 ?_
          refine V_nm (nI_add _ _) ?_
          refine V_sipush (v := 400) C dX6_write_42 (by decide) ?_
          refine V_icmple (tgt := 58) C dX6_write_45 (by decide) (fun h5 => ?_) (fun h5 => ?_)
          · have h400 : (zTxt s).length + m ≤ 400 := Nat.le_of_not_lt fun h => absurd h5 (nI_ge (b := (zTxt s).length + m) (a := 400) h (by omega))
            have e : spWrite s (nI x) (nI m) = (0, nI ((zTxt s).length + m), sTxt s (zTxt s ++ List.replicate m x)) := by
              unfold spWrite; rw [if_neg hgd, ex, em, if_neg (by omega)]
            rw [e] at Q
            refine V_aload_n C dX6_write_58 rfl ?_
            refine V_get C dX6_write_59 fr_6_10 hM rfl ?_
            refine V_iload_n C dX6_write_62 rfl ?_
            refine V_iload_n C dX6_write_63 rfl ?_
            refine V_invV C dX6_write_64 ht rfl (c_append 1 2 3 (zTxt s) x m hT (by omega) hm0 h400 (by decide)) mv_6_65 rfl (Nat.le_of_ble_eq_true rfl) ⟨Nat.le_of_ble_eq_true rfl, Nat.le_of_ble_eq_true rfl⟩ ⟨Nat.le_of_ble_eq_true rfl, Nat.le_of_ble_eq_true rfl⟩ (fun _ _ _ h => VT_no h) (fun v ad1 F1 hp => ?_)
            obtain ⟨rfl, rfl, h6, h7⟩ := hp
            have hK : ∀ z, 3 < z ∨ z = 0 → F1 z = F z := fun z hz => h7 z (by simp; omega)
            have hM := (hK 0 (Or.inr rfl)).trans hM
            have ht := h6.1
            unfold TxO at ht
            rw [List.length_append, List.length_replicate] at ht
            refine V_aload_n C dX6_write_67 rfl ?_
            refine V_get C dX6_write_68 fr_6_10 hM rfl ?_
            refine V_get C dX6_write_71 fr_6_57 ht rfl ?_
            exact V_ireturn C Q dX6_write_74 rfl (Nat.le_of_ble_eq_true rfl) (Nat.le_of_ble_eq_true rfl) ⟨rfl, rfl, ⟨(hC.1.kept (hK 0 (Or.inr rfl))), h6, hC.2.2.1.kept (hK _ (by omega)), hC.2.2.2.1.kept (hK _ (by omega)), hC.2.2.2.2.1.kept (hK _ (by omega)), hC.2.2.2.2.2.1.kept (hK _ (by omega)) (hK _ (by omega)) (hK _ (by omega)) (hK _ (by omega)), hC.2.2.2.2.2.2.1.kept (fun l _ => hK _ (by omega)), hC.2.2.2.2.2.2.2.1.kept (fun r _ => ⟨hK _ (by omega), hK _ (by omega)⟩), hC.2.2.2.2.2.2.2.2.1.kept (fun m _ => ⟨hK _ (by omega), hK _ (by omega), hK _ (by omega)⟩), hC.2.2.2.2.2.2.2.2.2.1.kept (fun m _ p _ => hK _ (by omega)), hC.2.2.2.2.2.2.2.2.2.2.kept (fun c h1 _ h => (hK c (by omega)).trans h)⟩, fun c hc => ⟨rfl, hK c (by omega)⟩⟩
          · have h400 : 400 < (zTxt s).length + m := Nat.lt_of_not_le fun h => h5 (nI_le (b := 400) h (by decide))
            rw [show spWrite s (nI x) (nI m) = (2, 0, s) by unfold spWrite; rw [if_neg hgd, em, if_pos h400]] at Q
            exact V_throwS C Q rfl (th_ISE 62 _ sw_62) dX6_write_48 dX6_write_51 dX6_write_52 dX6_write_54 dX6_write_57 ⟨Nat.le_of_ble_eq_true rfl, Nat.le_of_ble_eq_true rfl⟩ (Nat.le_of_ble_eq_true rfl) (Nat.le_of_ble_eq_true rfl) ⟨⟨1, rfl, rfl⟩, hC, FrK.rf⟩
        · rw [show spWrite s a b = (1, 0, s) from if_pos (Or.inr (Or.inr (Or.inr (Int32.not_le.mp h4))))] at Q
          exact V_throwS C Q rfl (th_IAE 52 _ sw_52) dX6_write_23 dX6_write_26 dX6_write_27 dX6_write_29 dX6_write_32 ⟨Nat.le_of_ble_eq_true rfl, Nat.le_of_ble_eq_true rfl⟩ (Nat.le_of_ble_eq_true rfl) (Nat.le_of_ble_eq_true rfl) ⟨⟨0, rfl, rfl⟩, hC, FrK.rf⟩
/-- all but the text stays -/
theorem CRep.txt {D : Dx} {ad : Nat → Nat} {F G : Fn} {s : St} {L : List Nat} (hC : CRep D ad F s) (hT : TextAt D ad G 1 2 3 L) (hK : ∀ z, 3 < z ∨ z = 0 → G z = F z) : CRep D ad G (sTxt s L) :=
  ⟨(hC.1.kept (hK 0 (Or.inr rfl))), hT, hC.2.2.1.kept (hK _ (by omega)), hC.2.2.2.1.kept (hK _ (by omega)), hC.2.2.2.2.1.kept (hK _ (by omega)), hC.2.2.2.2.2.1.kept (hK _ (by omega)) (hK _ (by omega)) (hK _ (by omega)) (hK _ (by omega)), hC.2.2.2.2.2.2.1.kept (fun l _ => hK _ (by omega)), hC.2.2.2.2.2.2.2.1.kept (fun r _ => ⟨hK _ (by omega), hK _ (by omega)⟩), hC.2.2.2.2.2.2.2.2.1.kept (fun m _ => ⟨hK _ (by omega), hK _ (by omega), hK _ (by omega)⟩), hC.2.2.2.2.2.2.2.2.2.1.kept (fun m _ p _ => hK _ (by omega)), hC.2.2.2.2.2.2.2.2.2.2.kept (fun c h1 _ h => (hK c (by omega)).trans h)⟩
set_option maxHeartbeats 400000 in
set_option maxRecDepth 100000 in
/-- erase -/
theorem c_erase {l : Launch} {D : Dx} {b0 : Nat} {ad : Nat → Nat} {F : Fn} (s : St) (hC : CRep D ad F s) (hI : Inv s) : Ct l D b0 yX6_erase (wsA yX6_erase cX6_erase 2 (some .int)) (rX 6) [.ref (ad 0)] ad F (PoS D ad F (spErase s)) noX := by
  refine Ct.of (by decide +kernel) (by simp [Value.category]) (Nat.le_of_ble_eq_true rfl) (fun X eD eb el C Q => ?_)
  subst eD; subst eb; subst el
  have hM := hC.1
  have hT := hC.2.1
  have ht := hT.1
  have hl := hT.2.1.1
  have hnp := (npL_spec hl).1
  unfold kMain at hM
  unfold TxO at ht
  refine V_aload_n C dX6_erase_0 rfl ?_
  refine V_get C dX6_erase_1 fr_6_10 hM rfl ?_
  refine V_get C dX6_erase_4 fr_6_57 ht rfl ?_
  refine V_istore_n C dX6_erase_7 (by decide) ?_
  refine V_aload_n C dX6_erase_8 rfl ?_
  refine V_get C dX6_erase_9 fr_6_10 hM rfl ?_
  refine V_invV C dX6_erase_12 ht rfl (c_clear 1 2 3 (zTxt s) hT (by decide)) mv_6_69 rfl (Nat.le_of_ble_eq_true rfl) ⟨Nat.le_of_ble_eq_true rfl, Nat.le_of_ble_eq_true rfl⟩ ⟨Nat.le_of_ble_eq_true rfl, Nat.le_of_ble_eq_true rfl⟩ (fun _ _ _ h => VT_no h) (fun v ad1 F1 hp => ?_)
  obtain ⟨rfl, rfl, h6, h7⟩ := hp
  refine V_iload_n C dX6_erase_15 rfl ?_
  exact V_ireturn C Q dX6_erase_16 rfl (Nat.le_of_ble_eq_true rfl) (Nat.le_of_ble_eq_true rfl) ⟨rfl, rfl, hC.txt h6 (fun z hz => h7 z (by omega)), fun c hc => ⟨rfl, h7 c (by omega)⟩⟩
set_option maxHeartbeats 400000 in
set_option maxRecDepth 100000 in
/-- isWide -/
theorem c_isWide {l : Launch} {D : Dx} {b0 : Nat} {ad : Nat → Nat} {F : Fn} (s : St) (hC : CRep D ad F s) (hI : Inv s) : Ct l D b0 yX6_isWide (wsA yX6_isWide cX6_isWide 1 (some .boolean)) (rX 6) [.ref (ad 0)] ad F (PoS D ad F (spWide s)) noX := by
  refine Ct.of (by decide +kernel) (by simp [Value.category]) (Nat.le_of_ble_eq_true rfl) (fun X eD eb el C Q => ?_)
  subst eD; subst eb; subst el
  have hM := hC.1
  have hT := hC.2.1
  have ht := hT.1
  have hl := hT.2.1.1
  have hnp := (npL_spec hl).1
  unfold kMain at hM
  unfold TxO at ht
  refine V_aload_n C dX6_isWide_0 rfl ?_
  refine V_get C dX6_isWide_1 fr_6_10 hM rfl ?_
  refine V_get C dX6_isWide_4 fr_6_72 ht rfl ?_
  exact V_ireturn C Q dX6_isWide_7 (by unfold b2i; split <;> rfl) (Nat.le_of_ble_eq_true rfl) (Nat.le_of_ble_eq_true rfl) ⟨rfl, rfl, hC, FrK.rf⟩
set_option maxHeartbeats 400000 in
set_option maxRecDepth 100000 in
/-- parts -/
theorem c_parts {l : Launch} {D : Dx} {b0 : Nat} {ad : Nat → Nat} {F : Fn} (s : St) (hC : CRep D ad F s) (hI : Inv s) : Ct l D b0 yX6_parts (wsA yX6_parts cX6_parts 1 (some .int)) (rX 6) [.ref (ad 0)] ad F (PoS D ad F (spParts s)) noX := by
  refine Ct.of (by decide +kernel) (by simp [Value.category]) (Nat.le_of_ble_eq_true rfl) (fun X eD eb el C Q => ?_)
  subst eD; subst eb; subst el
  have hM := hC.1
  have hT := hC.2.1
  have ht := hT.1
  have hl := hT.2.1.1
  have hnp := (npL_spec hl).1
  unfold kMain at hM
  unfold TxO at ht
  refine V_aload_n C dX6_parts_0 rfl ?_
  refine V_get C dX6_parts_1 fr_6_10 hM rfl ?_
  refine V_get C dX6_parts_4 fr_6_81 ht rfl ?_
  exact V_ireturn C Q dX6_parts_7 rfl (Nat.le_of_ble_eq_true rfl) (Nat.le_of_ble_eq_true rfl) ⟨rfl, rfl, hC, FrK.rf⟩
set_option maxHeartbeats 400000 in
set_option maxRecDepth 100000 in
/-- receipts -/
theorem c_receipts {l : Launch} {D : Dx} {b0 : Nat} {ad : Nat → Nat} {F : Fn} (s : St) (hC : CRep D ad F s) (hI : Inv s) : Ct l D b0 yX6_receipts (wsA yX6_receipts cX6_receipts 1 (some .int)) (rX 6) [.ref (ad 0)] ad F (PoS D ad F (spRcps s)) noX := by
  refine Ct.of (by decide +kernel) (by simp [Value.category]) (Nat.le_of_ble_eq_true rfl) (fun X eD eb el C Q => ?_)
  subst eD; subst eb; subst el
  have hM := hC.1
  have hT := hC.2.1
  have ht := hT.1
  have hl := hT.2.1.1
  have hnp := (npL_spec hl).1
  unfold kMain at hM
  unfold TxO at ht
  refine V_aload_n C dX6_receipts_0 rfl ?_
  refine V_get C dX6_receipts_1 fr_6_30 hM rfl ?_
  exact V_ireturn C Q dX6_receipts_4 rfl (Nat.le_of_ble_eq_true rfl) (Nat.le_of_ble_eq_true rfl) ⟨rfl, rfl, hC, FrK.rf⟩
set_option maxHeartbeats 400000 in
set_option maxRecDepth 100000 in
/-- time -/
theorem c_time {l : Launch} {D : Dx} {b0 : Nat} {ad : Nat → Nat} {F : Fn} (s : St) (hC : CRep D ad F s) (hI : Inv s) : Ct l D b0 yX6_time (wsA yX6_time cX6_time 1 (some .int)) (rX 6) [.ref (ad 0)] ad F (PoS D ad F (spTime s)) noX := by
  refine Ct.of (by decide +kernel) (by simp [Value.category]) (Nat.le_of_ble_eq_true rfl) (fun X eD eb el C Q => ?_)
  subst eD; subst eb; subst el
  have hM := hC.1
  have hT := hC.2.1
  have ht := hT.1
  have hl := hT.2.1.1
  have hnp := (npL_spec hl).1
  unfold kMain at hM
  unfold TxO at ht
  refine V_aload_n C dX6_time_0 rfl ?_
  refine V_get C dX6_time_1 fr_6_46 hM rfl ?_
  exact V_ireturn C Q dX6_time_4 rfl (Nat.le_of_ble_eq_true rfl) (Nat.le_of_ble_eq_true rfl) ⟨rfl, rfl, hC, FrK.rf⟩
set_option maxHeartbeats 400000 in
set_option maxRecDepth 100000 in
/-- septets -/
theorem c_septets {l : Launch} {D : Dx} {b0 : Nat} {ad : Nat → Nat} {F : Fn} (s : St) (hC : CRep D ad F s) (hI : Inv s) : Ct l D b0 yX6_septets (wsA yX6_septets cX6_septets 1 (some .int)) (rX 6) [.ref (ad 0)] ad F (PoS D ad F (spSept s)) (PxS D ad F [eISE] (spSept s)) := by
  refine Ct.of (by decide +kernel) (by simp [Value.category]) (Nat.le_of_ble_eq_true rfl) (fun X eD eb el C Q => ?_)
  subst eD; subst eb; subst el
  have hM := hC.1
  have hT := hC.2.1
  have ht := hT.1
  have hl := hT.2.1.1
  have hnp := (npL_spec hl).1
  unfold kMain at hM
  unfold TxO at ht
  refine V_aload_n C dX6_septets_0 rfl ?_
  refine V_get C dX6_septets_1 fr_6_10 hM rfl ?_
  refine V_get C dX6_septets_4 fr_6_72 ht rfl ?_
  refine V_ifeq (tgt := 20) C dX6_septets_7 (by decide) (fun hc => ?_) (fun hc => ?_)
  · rw [show spSept s = (0, nI (septL (zTxt s)), s) from if_neg (wide_fa hc)] at Q
    refine V_aload_n C dX6_septets_20 rfl ?_
    refine V_get C dX6_septets_21 fr_6_10 hM rfl ?_
    refine V_get C dX6_septets_24 fr_6_78 ht rfl ?_
    exact V_ireturn C Q dX6_septets_27 rfl (Nat.le_of_ble_eq_true rfl) (Nat.le_of_ble_eq_true rfl) ⟨rfl, rfl, hC, FrK.rf⟩
  · rw [show spSept s = (1, 0, s) from if_pos (wide_tr hc)] at Q
    exact V_throwS C Q rfl (th_ISE 76 _ sw_76) dX6_septets_10 dX6_septets_13 dX6_septets_14 dX6_septets_16 dX6_septets_19 ⟨Nat.le_of_ble_eq_true rfl, Nat.le_of_ble_eq_true rfl⟩ (Nat.le_of_ble_eq_true rfl) (Nat.le_of_ble_eq_true rfl) ⟨⟨0, rfl, rfl⟩, hC, FrK.rf⟩
set_option maxHeartbeats 400000 in
set_option maxRecDepth 100000 in
/-- signs -/
theorem c_signs {l : Launch} {D : Dx} {b0 : Nat} {ad : Nat → Nat} {F : Fn} (s : St) (a : Int32) (hC : CRep D ad F s) (hI : Inv s) : Ct l D b0 yX6_signs (wsA yX6_signs cX6_signs 2 (some .int)) (rY 7) [.ref (ad 0), .int a] ad F (PoS D ad F (spSigns s a)) (PxS D ad F [eIOB] (spSigns s a)) := by
  refine Ct.of (by decide +kernel) (by simp [Value.category]) (Nat.le_of_ble_eq_true rfl) (fun X eD eb el C Q => ?_)
  subst eD; subst eb; subst el
  have hM := hC.1
  have hT := hC.2.1
  have ht := hT.1
  have hl := hT.2.1.1
  have hnp := (npL_spec hl).1
  unfold kMain at hM
  unfold TxO at ht
  refine V_aload_n C dX6_signs_0 rfl ?_
  refine V_iload_n C dX6_signs_1 rfl ?_
  refine V_invV C dX6_signs_2 hM rfl (c_requirePart s a hC hI) mv_6_84 rfl (Nat.le_of_ble_eq_true rfl) ⟨Nat.le_of_ble_eq_true rfl, Nat.le_of_ble_eq_true rfl⟩ ⟨Nat.le_of_ble_eq_true rfl, Nat.le_of_ble_eq_true rfl⟩ ?_ ?_
  · intro E ad1 F1 h
    obtain ⟨h1, rfl, rfl, rfl⟩ := h
    rw [show spSigns s a = (1, 0, s) from if_pos h1] at Q
    exact VT_out C Q (Nat.le_of_ble_eq_true rfl) (Nat.le_of_ble_eq_true rfl) ⟨⟨0, rfl, rfl⟩, hC, FrK.rf⟩
  intro v ad1 F1 hp
  obtain ⟨rfl, hga, rfl, rfl⟩ := hp
  obtain ⟨j, hj, rfl⟩ := badI_not (by omega) hga
  have ej : (nI j).toNatClampNeg = j := nI_clamp (by omega)
  have hne : zTxt s ≠ [] := fun e => by rw [e, npL_nil] at hj; exact absurd hj (Nat.not_lt_zero j)
  refine V_aload_n C dX6_signs_5 rfl ?_
  refine V_get C dX6_signs_6 fr_6_10 hM rfl ?_
  refine V_iload_n C dX6_signs_9 rfl ?_
  refine V_iconst (v := 1) C dX6_signs_10 rfl ?_
  refine V_iadd C dX6_signs_11 ?_
  rw [show spSigns s (nI j) = (0, nI (posL (zTxt s) (j + 1) - posL (zTxt s) j), s) by unfold spSigns; rw [if_neg hga, ej]] at Q
  refine V_nm (nI_1 j) ?_
  refine V_invV C dX6_signs_12 ht rfl (c_startOf 1 2 3 (zTxt s) (j + 1) hT hj hne) mv_6_88 rfl (Nat.le_of_ble_eq_true rfl) ⟨Nat.le_of_ble_eq_true rfl, Nat.le_of_ble_eq_true rfl⟩ ⟨Nat.le_of_ble_eq_true rfl, Nat.le_of_ble_eq_true rfl⟩ (fun _ _ _ h => VT_no h) (fun v ad1 F1 hp => ?_)
  obtain ⟨rfl, rfl, rfl⟩ := hp
  refine V_aload_n C dX6_signs_15 rfl ?_
  refine V_get C dX6_signs_16 fr_6_10 hM rfl ?_
  refine V_iload_n C dX6_signs_19 rfl ?_
  refine V_invV C dX6_signs_20 ht rfl (c_startOf 1 2 3 (zTxt s) j hT (by omega) hne) mv_6_88 rfl (Nat.le_of_ble_eq_true rfl) ⟨Nat.le_of_ble_eq_true rfl, Nat.le_of_ble_eq_true rfl⟩ ⟨Nat.le_of_ble_eq_true rfl, Nat.le_of_ble_eq_true rfl⟩ (fun _ _ _ h => VT_no h) (fun v ad1 F1 hp => ?_)
  obtain ⟨rfl, rfl, rfl⟩ := hp
  refine V_isub C dX6_signs_23 ?_
  refine V_nm (pk_sub (posL_mono (zTxt s) (by omega))) ?_
  exact V_ireturn C Q dX6_signs_24 rfl (Nat.le_of_ble_eq_true rfl) (Nat.le_of_ble_eq_true rfl) ⟨rfl, rfl, hC, FrK.rf⟩
set_option maxHeartbeats 400000 in
set_option maxRecDepth 100000 in
/-- octets -/
theorem c_octets {l : Launch} {D : Dx} {b0 : Nat} {ad : Nat → Nat} {F : Fn} (s : St) (a : Int32) (hC : CRep D ad F s) (hI : Inv s) : Ct l D b0 yX6_octets (wsA yX6_octets cX6_octets 2 (some .int)) (rY 7) [.ref (ad 0), .int a] ad F (PoS D ad F (spOcts s a)) (PxS D ad F [eIOB] (spOcts s a)) := by
  refine Ct.of (by decide +kernel) (by simp [Value.category]) (Nat.le_of_ble_eq_true rfl) (fun X eD eb el C Q => ?_)
  subst eD; subst eb; subst el
  have hM := hC.1
  have hT := hC.2.1
  have ht := hT.1
  have hl := hT.2.1.1
  have hnp := (npL_spec hl).1
  unfold kMain at hM
  unfold TxO at ht
  refine V_aload_n C dX6_octets_0 rfl ?_
  refine V_iload_n C dX6_octets_1 rfl ?_
  refine V_invV C dX6_octets_2 hM rfl (c_requirePart s a hC hI) mv_6_84 rfl (Nat.le_of_ble_eq_true rfl) ⟨Nat.le_of_ble_eq_true rfl, Nat.le_of_ble_eq_true rfl⟩ ⟨Nat.le_of_ble_eq_true rfl, Nat.le_of_ble_eq_true rfl⟩ ?_ ?_
  · intro E ad1 F1 h
    obtain ⟨h1, rfl, rfl, rfl⟩ := h
    rw [show spOcts s a = (1, 0, s) from if_pos h1] at Q
    exact VT_out C Q (Nat.le_of_ble_eq_true rfl) (Nat.le_of_ble_eq_true rfl) ⟨⟨0, rfl, rfl⟩, hC, FrK.rf⟩
  intro v ad1 F1 hp
  obtain ⟨rfl, hga, rfl, rfl⟩ := hp
  obtain ⟨j, hj, rfl⟩ := badI_not (by omega) hga
  have ej : (nI j).toNatClampNeg = j := nI_clamp (by omega)
  have hne : zTxt s ≠ [] := fun e => by rw [e, npL_nil] at hj; exact absurd hj (Nat.not_lt_zero j)
  refine V_aload_n C dX6_octets_5 rfl ?_
  refine V_get C dX6_octets_6 fr_6_10 hM rfl ?_
  refine V_iload_n C dX6_octets_9 rfl ?_
  rw [show spOcts s (nI j) = (0, nI (octN (zTxt s) j), s) by unfold spOcts; rw [if_neg hga, ej]] at Q
  refine V_invV C dX6_octets_10 ht rfl (c_octetsOf 1 2 3 (zTxt s) j hT hj) mv_6_92 rfl (Nat.le_of_ble_eq_true rfl) ⟨Nat.le_of_ble_eq_true rfl, Nat.le_of_ble_eq_true rfl⟩ ⟨Nat.le_of_ble_eq_true rfl, Nat.le_of_ble_eq_true rfl⟩ (fun _ _ _ h => VT_no h) (fun v ad1 F1 hp => ?_)
  obtain ⟨rfl, rfl, rfl⟩ := hp
  exact V_ireturn C Q dX6_octets_13 rfl (Nat.le_of_ble_eq_true rfl) (Nat.le_of_ble_eq_true rfl) ⟨rfl, rfl, hC, FrK.rf⟩
set_option maxHeartbeats 400000 in
set_option maxRecDepth 100000 in
/-- octet -/
theorem c_octet {l : Launch} {D : Dx} {b0 : Nat} {ad : Nat → Nat} {F : Fn} (s : St) (a b : Int32) (hC : CRep D ad F s) (hI : Inv s) : Ct l D b0 yX6_octet (wsA yX6_octet cX6_octet 3 (some .int)) (rY 7) [.ref (ad 0), .int a, .int b] ad F (PoS D ad F (spOct s a b)) (PxS D ad F [eIOB] (spOct s a b)) := by
  refine Ct.of (by decide +kernel) (by simp [Value.category]) (Nat.le_of_ble_eq_true rfl) (fun X eD eb el C Q => ?_)
  subst eD; subst eb; subst el
  have hM := hC.1
  have hT := hC.2.1
  have ht := hT.1
  have hl := hT.2.1.1
  have hnp := (npL_spec hl).1
  unfold kMain at hM
  unfold TxO at ht
  refine V_aload_n C dX6_octet_0 rfl ?_
  refine V_iload_n C dX6_octet_1 rfl ?_
  refine V_invV C dX6_octet_2 hM rfl (c_requirePart s a hC hI) mv_6_84 rfl (Nat.le_of_ble_eq_true rfl) ⟨Nat.le_of_ble_eq_true rfl, Nat.le_of_ble_eq_true rfl⟩ ⟨Nat.le_of_ble_eq_true rfl, Nat.le_of_ble_eq_true rfl⟩ ?_ ?_
  · intro E ad1 F1 h
    obtain ⟨h1, rfl, rfl, rfl⟩ := h
    rw [show spOct s a b = (1, 0, s) from if_pos h1] at Q
    exact VT_out C Q (Nat.le_of_ble_eq_true rfl) (Nat.le_of_ble_eq_true rfl) ⟨⟨0, rfl, rfl⟩, hC, FrK.rf⟩
  intro v ad1 F1 hp
  obtain ⟨rfl, hga, rfl, rfl⟩ := hp
  obtain ⟨j, hj, rfl⟩ := badI_not (by omega) hga
  have ej : (nI j).toNatClampNeg = j := nI_clamp (by omega)
  have hne : zTxt s ≠ [] := fun e => by rw [e, npL_nil] at hj; exact absurd hj (Nat.not_lt_zero j)
  refine V_iload_n C dX6_octet_5 rfl ?_
  have hoc : octN (zTxt s) j < 2 ^ 30 := by
    unfold octN
    have := posL_le (zTxt s) (j + 1)
    have h9 : septL (ptL (zTxt s) j) ≤ 2 * 400 := by
      refine Nat.le_trans septL_le (Nat.mul_le_mul_left 2 ?_)
      unfold ptL
      rw [List.length_take, List.length_drop]
      omega
    split <;> omega
  refine V_iflt (tgt := 21) C dX6_octet_6 (by decide) (fun hb => ?_) (fun hb => ?_)
  · rw [show spOct s (nI j) b = (1, 0, s) by unfold spOct; rw [if_neg hga, if_pos (Or.inl hb)]] at Q
    exact V_throwS C Q rfl (th_IOB 97 _ sw_97) dX6_octet_21 dX6_octet_24 dX6_octet_25 dX6_octet_27 dX6_octet_30 ⟨Nat.le_of_ble_eq_true rfl, Nat.le_of_ble_eq_true rfl⟩ (Nat.le_of_ble_eq_true rfl) (Nat.le_of_ble_eq_true rfl) ⟨⟨0, rfl, rfl⟩, hC, FrK.rf⟩
  · refine V_iload_n C dX6_octet_9 rfl ?_
    refine V_aload_n C dX6_octet_10 rfl ?_
    refine V_get C dX6_octet_11 fr_6_10 hM rfl ?_
    refine V_iload_n C dX6_octet_14 rfl ?_
    refine V_invV C dX6_octet_15 ht rfl (c_octetsOf 1 2 3 (zTxt s) j hT hj) mv_6_92 rfl (Nat.le_of_ble_eq_true rfl) ⟨Nat.le_of_ble_eq_true rfl, Nat.le_of_ble_eq_true rfl⟩ ⟨Nat.le_of_ble_eq_true rfl, Nat.le_of_ble_eq_true rfl⟩ (fun _ _ _ h => VT_no h) (fun v ad1 F1 hp => ?_)
    obtain ⟨rfl, rfl, rfl⟩ := hp
    refine V_icmplt (tgt := 31) C dX6_octet_18 (by decide) (fun hb2 => ?_) (fun hb2 => ?_)
    · obtain ⟨k, hk, rfl⟩ := badI_not (a := b) (n := octN (zTxt s) j) (by omega) (fun h => h.elim hb (fun h => absurd hb2 (Int32.not_lt.mpr h)))
      rw [show spOct s (nI j) (nI k) = (0, octI (zTxt s) j k, s) by unfold spOct; rw [if_neg hga, ej, if_neg (fun h => h.elim hb (fun h => absurd hb2 (Int32.not_lt.mpr h))), nI_clamp (by omega)]] at Q
      refine V_aload_n C dX6_octet_31 rfl ?_
      refine V_get C dX6_octet_32 fr_6_10 hM rfl ?_
      refine V_iload_n C dX6_octet_35 rfl ?_
      refine V_iload_n C dX6_octet_36 rfl ?_
      refine V_invV C dX6_octet_37 ht rfl (c_octetAt 1 2 3 (zTxt s) j k hT hj hk) mv_6_100 rfl (Nat.le_of_ble_eq_true rfl) ⟨Nat.le_of_ble_eq_true rfl, Nat.le_of_ble_eq_true rfl⟩ ⟨Nat.le_of_ble_eq_true rfl, Nat.le_of_ble_eq_true rfl⟩ (fun _ _ _ h => VT_no h) (fun v ad1 F1 hp => ?_)
      obtain ⟨rfl, rfl, rfl⟩ := hp
      exact V_ireturn C Q dX6_octet_40 rfl (Nat.le_of_ble_eq_true rfl) (Nat.le_of_ble_eq_true rfl) ⟨rfl, rfl, hC, FrK.rf⟩
    · rw [show spOct s (nI j) b = (1, 0, s) by unfold spOct; rw [if_neg hga, ej, if_pos (Or.inr (Int32.not_lt.mp hb2))]] at Q
      exact V_throwS C Q rfl (th_IOB 97 _ sw_97) dX6_octet_21 dX6_octet_24 dX6_octet_25 dX6_octet_27 dX6_octet_30 ⟨Nat.le_of_ble_eq_true rfl, Nat.le_of_ble_eq_true rfl⟩ (Nat.le_of_ble_eq_true rfl) (Nat.le_of_ble_eq_true rfl) ⟨⟨0, rfl, rfl⟩, hC, FrK.rf⟩
set_option maxHeartbeats 400000 in
set_option maxRecDepth 100000 in
/-- messageAt -/
theorem c_messageAt {l : Launch} {D : Dx} {b0 : Nat} {ad : Nat → Nat} {F : Fn} (s : St) (a : Int32) (hC : CRep D ad F s) (hI : Inv s) : Ct l D b0 yX6_messageAt (wsA yX6_messageAt cX6_messageAt 2 (some (.object "Shortmessage$Message"))) (rX 6) [.ref (ad 0), .int a] ad F (fun v ad1 F1 => ¬ (a < 0 ∨ nI (zMc s) ≤ a) ∧ v = some (.ref (ad (30 + 3 * a.toNatClampNeg))) ∧ ad = ad1 ∧ F = F1) (fun E ad1 F1 => (a < 0 ∨ nI (zMc s) ≤ a) ∧ E = eIOB ∧ ad = ad1 ∧ F = F1) := by
  refine Ct.of (by decide +kernel) (by simp [Value.category]) (Nat.le_of_ble_eq_true rfl) (fun X eD eb el C Q => ?_)
  subst eD; subst eb; subst el
  have hM := hC.1
  have hT := hC.2.1
  have ht := hT.1
  have hl := hT.2.1.1
  have hnp := (npL_spec hl).1
  unfold kMain at hM
  unfold TxO at ht
  obtain ⟨fm, hma, hfm⟩ := hC.2.2.1
  have hmc := hI.2.1
  refine V_iload_n C dX6_messageAt_0 rfl ?_
  refine V_iflt (tgt := 30) C dX6_messageAt_1 (by decide) (fun h1 => ?_) (fun h1 => ?_)
  · exact V_throwS C Q rfl (th_IOB 165 _ sw_165) dX6_messageAt_30 dX6_messageAt_33 dX6_messageAt_34 dX6_messageAt_36 dX6_messageAt_39 ⟨Nat.le_of_ble_eq_true rfl, Nat.le_of_ble_eq_true rfl⟩ (Nat.le_of_ble_eq_true rfl) (Nat.le_of_ble_eq_true rfl) ⟨Or.inl h1, rfl, rfl, rfl⟩
  · refine V_iload_n C dX6_messageAt_4 rfl ?_
    refine V_aload_n C dX6_messageAt_5 rfl ?_
    refine V_get C dX6_messageAt_6 fr_6_22 hM rfl ?_
    refine V_icmpge (tgt := 30) C dX6_messageAt_9 (by decide) (fun h2 => ?_) (fun h2 => ?_)
    · exact V_throwS C Q rfl (th_IOB 165 _ sw_165) dX6_messageAt_30 dX6_messageAt_33 dX6_messageAt_34 dX6_messageAt_36 dX6_messageAt_39 ⟨Nat.le_of_ble_eq_true rfl, Nat.le_of_ble_eq_true rfl⟩ (Nat.le_of_ble_eq_true rfl) (Nat.le_of_ble_eq_true rfl) ⟨Or.inr h2, rfl, rfl, rfl⟩
    · obtain ⟨j, hj, rfl⟩ := badI_not (a := a) (n := zMc s) (by omega) (fun h => h.elim h1 (fun h => absurd h (Int32.not_le.mpr (Int32.not_le.mp h2))))
      have hga : ¬ (nI j < 0 ∨ nI (zMc s) ≤ nI j) := fun h => h.elim h1 h2
      have ej : (nI j).toNatClampNeg = j := nI_clamp (by omega)
      rw [ej] at Q
      refine V_iload_n C dX6_messageAt_12 rfl ?_
      refine V_aload_n C dX6_messageAt_13 rfl ?_
      refine V_get C dX6_messageAt_14 fr_6_18 hM rfl ?_
      refine V_alen C dX6_messageAt_17 hma rfl ?_
      refine V_icmpge_f (tgt := 30) C dX6_messageAt_18 (by decide) (nI_ge (a := j) (b := 20) (by omega) (by decide)) ?_
      refine V_aload_n C dX6_messageAt_21 rfl ?_
      refine V_get C dX6_messageAt_22 fr_6_18 hM rfl ?_
      refine V_iload_n C dX6_messageAt_25 rfl ?_
      refine V_aald C dX6_messageAt_26 hma rfl rfl (by omega) (by decide) ?_
      refine V_rf (r' := some (ad (30 + 3 * j))) (by rw [hfm j (by omega), if_pos hj]) ?_
      refine V_ifnonnull (tgt := 40) C dX6_messageAt_27 (by decide) ?_
      refine V_aload_n C dX6_messageAt_40 rfl ?_
      refine V_get C dX6_messageAt_41 fr_6_18 hM rfl ?_
      refine V_iload_n C dX6_messageAt_44 rfl ?_
      refine V_aald C dX6_messageAt_45 hma rfl rfl (by omega) (by decide) ?_
      refine V_rf (r' := some (ad (30 + 3 * j))) (by rw [hfm j (by omega), if_pos hj]) ?_
      exact V_areturn C Q dX6_messageAt_46 (Or.inl ⟨_, rfl⟩) (Or.inr ⟨_, rfl⟩) (Nat.le_of_ble_eq_true rfl) (Nat.le_of_ble_eq_true rfl) ⟨hga, rfl, rfl, rfl⟩
set_option maxHeartbeats 400000 in
set_option maxRecDepth 100000 in
/-- state -/
theorem c_state {l : Launch} {D : Dx} {b0 : Nat} {ad : Nat → Nat} {F : Fn} (s : St) (a : Int32) (hC : CRep D ad F s) (hI : Inv s) : Ct l D b0 yX6_state (wsA yX6_state cX6_state 2 (some .int)) (rY 7) [.ref (ad 0), .int a] ad F (PoS D ad F (spState s a)) (PxS D ad F [eIOB] (spState s a)) := by
  refine Ct.of (by decide +kernel) (by simp [Value.category]) (Nat.le_of_ble_eq_true rfl) (fun X eD eb el C Q => ?_)
  subst eD; subst eb; subst el
  have hM := hC.1
  have hT := hC.2.1
  have ht := hT.1
  have hl := hT.2.1.1
  have hnp := (npL_spec hl).1
  unfold kMain at hM
  unfold TxO at ht
  have hmc := hI.2.1
  refine V_aload_n C dX6_state_0 rfl ?_
  refine V_iload_n C dX6_state_1 rfl ?_
  refine V_invV C dX6_state_2 hM rfl (c_messageAt s a hC hI) mv_6_143 rfl (Nat.le_of_ble_eq_true rfl) ⟨Nat.le_of_ble_eq_true rfl, Nat.le_of_ble_eq_true rfl⟩ ⟨Nat.le_of_ble_eq_true rfl, Nat.le_of_ble_eq_true rfl⟩ ?_ ?_
  · intro E ad1 F1 h
    obtain ⟨h1, rfl, rfl, rfl⟩ := h
    rw [show spState s a = (1, 0, s) from if_pos h1] at Q
    exact VT_out C Q (Nat.le_of_ble_eq_true rfl) (Nat.le_of_ble_eq_true rfl) ⟨⟨0, rfl, rfl⟩, hC, FrK.rf⟩
  intro v ad1 F1 hp
  obtain ⟨hga, rfl, rfl, rfl⟩ := hp
  obtain ⟨j, hj, rfl⟩ := badI_not (by omega) hga
  have ej : (nI j).toNatClampNeg = j := nI_clamp (by omega)
  rw [ej]
  obtain ⟨hg, ⟨fs, hsg, hfs⟩, ft, hst, hft⟩ := hC.2.2.2.2.2.2.2.2.1 j hj
  unfold MsgAt at hg
  rw [show spState s (nI j) = (0, nI (zSt s j), s) by unfold spState; rw [if_neg hga, ej]] at Q
  refine V_get C dX6_state_5 fr_6_147 hg rfl ?_
  exact V_ireturn C Q dX6_state_8 rfl (Nat.le_of_ble_eq_true rfl) (Nat.le_of_ble_eq_true rfl) ⟨rfl, rfl, hC, FrK.rf⟩
set_option maxHeartbeats 400000 in
set_option maxRecDepth 100000 in
/-- missing -/
theorem c_missing {l : Launch} {D : Dx} {b0 : Nat} {ad : Nat → Nat} {F : Fn} (s : St) (a : Int32) (hC : CRep D ad F s) (hI : Inv s) : Ct l D b0 yX6_missing (wsA yX6_missing cX6_missing 2 (some .int)) (rY 7) [.ref (ad 0), .int a] ad F (PoS D ad F (spMiss s a)) (PxS D ad F [eIOB] (spMiss s a)) := by
  refine Ct.of (by decide +kernel) (by simp [Value.category]) (Nat.le_of_ble_eq_true rfl) (fun X eD eb el C Q => ?_)
  subst eD; subst eb; subst el
  have hM := hC.1
  have hT := hC.2.1
  have ht := hT.1
  have hl := hT.2.1.1
  have hnp := (npL_spec hl).1
  unfold kMain at hM
  unfold TxO at ht
  have hmc := hI.2.1
  refine V_aload_n C dX6_missing_0 rfl ?_
  refine V_iload_n C dX6_missing_1 rfl ?_
  refine V_invV C dX6_missing_2 hM rfl (c_messageAt s a hC hI) mv_6_143 rfl (Nat.le_of_ble_eq_true rfl) ⟨Nat.le_of_ble_eq_true rfl, Nat.le_of_ble_eq_true rfl⟩ ⟨Nat.le_of_ble_eq_true rfl, Nat.le_of_ble_eq_true rfl⟩ ?_ ?_
  · intro E ad1 F1 h
    obtain ⟨h1, rfl, rfl, rfl⟩ := h
    rw [show spMiss s a = (1, 0, s) from if_pos h1] at Q
    exact VT_out C Q (Nat.le_of_ble_eq_true rfl) (Nat.le_of_ble_eq_true rfl) ⟨⟨0, rfl, rfl⟩, hC, FrK.rf⟩
  intro v ad1 F1 hp
  obtain ⟨hga, rfl, rfl, rfl⟩ := hp
  obtain ⟨j, hj, rfl⟩ := badI_not (by omega) hga
  have ej : (nI j).toNatClampNeg = j := nI_clamp (by omega)
  rw [ej]
  obtain ⟨hg, ⟨fs, hsg, hfs⟩, ft, hst, hft⟩ := hC.2.2.2.2.2.2.2.2.1 j hj
  unfold MsgAt at hg
  rw [show spMiss s (nI j) = (0, nI (zLk s j), s) by unfold spMiss; rw [if_neg hga, ej]] at Q
  refine V_get C dX6_missing_5 fr_6_150 hg rfl ?_
  exact V_ireturn C Q dX6_missing_8 rfl (Nat.le_of_ble_eq_true rfl) (Nat.le_of_ble_eq_true rfl) ⟨rfl, rfl, hC, FrK.rf⟩
theorem pwF_le (ps : Nat → Nat) (x : Nat) : ∀ n, pwF ps x n ≤ n
  | 0 => Nat.le_refl _
  | n + 1 => by
    unfold pwF
    split
    · exact Nat.le_refl _
    · have := pwF_le ps x n; omega
theorem pwF_lt {ps : Nat → Nat} {x n : Nat} (h0 : 0 < n) (h : x < ps n) : pwF ps x n < n := by
  obtain ⟨m, rfl⟩ : ∃ m, n = m + 1 := ⟨n - 1, by omega⟩
  unfold pwF
  rw [if_neg (by omega)]
  have := pwF_le ps x m
  omega
set_option maxHeartbeats 400000 in
set_option maxRecDepth 100000 in
/-- joined -/
theorem c_joined {l : Launch} {D : Dx} {b0 : Nat} {ad : Nat → Nat} {F : Fn} (s : St) (a b : Int32) (hC : CRep D ad F s) (hI : Inv s) : Ct l D b0 yX6_joined (wsA yX6_joined cX6_joined 4 (some .int)) (rY 7) [.ref (ad 0), .int a, .int b] ad F (PoS D ad F (spJoin s a b)) (PxS D ad F [eIOB] (spJoin s a b)) := by
  refine Ct.of (by decide +kernel) (by simp [Value.category]) (Nat.le_of_ble_eq_true rfl) (fun X eD eb el C Q => ?_)
  subst eD; subst eb; subst el
  have hM := hC.1
  have hT := hC.2.1
  have ht := hT.1
  have hl := hT.2.1.1
  have hnp := (npL_spec hl).1
  unfold kMain at hM
  unfold TxO at ht
  have hmc := hI.2.1
  refine V_aload_n C dX6_joined_0 rfl ?_
  refine V_iload_n C dX6_joined_1 rfl ?_
  refine V_invV C dX6_joined_2 hM rfl (c_messageAt s a hC hI) mv_6_143 rfl (Nat.le_of_ble_eq_true rfl) ⟨Nat.le_of_ble_eq_true rfl, Nat.le_of_ble_eq_true rfl⟩ ⟨Nat.le_of_ble_eq_true rfl, Nat.le_of_ble_eq_true rfl⟩ ?_ ?_
  · intro E ad1 F1 h
    obtain ⟨h1, rfl, rfl, rfl⟩ := h
    rw [show spJoin s a b = (1, 0, s) from if_pos h1] at Q
    exact VT_out C Q (Nat.le_of_ble_eq_true rfl) (Nat.le_of_ble_eq_true rfl) ⟨⟨0, rfl, rfl⟩, hC, FrK.rf⟩
  intro v ad1 F1 hp
  obtain ⟨hga, rfl, rfl, rfl⟩ := hp
  obtain ⟨j, hj, rfl⟩ := badI_not (by omega) hga
  have ej : (nI j).toNatClampNeg = j := nI_clamp (by omega)
  rw [ej]
  obtain ⟨hg, ⟨fs, hsg, hfs⟩, ft, hst, hft⟩ := hC.2.2.2.2.2.2.2.2.1 j hj
  unfold MsgAt at hg
  obtain ⟨hi1, hi2, hi3, hi4, hi5, hi6, hi7, hi8⟩ := hI.2.2.2.2.2.1 j hj
  have hnp9 := (npL_spec hi2).1
  have hw64 : zLk s j < 64 := Nat.lt_of_lt_of_le hi7 (Nat.pow_le_pow_right (n := 2) (by decide) hnp9)
  refine V_astore_n C dX6_joined_5 (by decide) ?_
  refine V_iload_n C dX6_joined_6 rfl ?_
  refine V_iflt (tgt := 19) C dX6_joined_7 (by decide) (fun hb => ?_) (fun hb => ?_)
  · rw [show spJoin s (nI j) b = (1, 0, s) by unfold spJoin; rw [if_neg hga, if_pos (Or.inl hb)]] at Q
    exact V_throwS C Q rfl (th_IOB 97 _ sw_97) dX6_joined_19 dX6_joined_22 dX6_joined_23 dX6_joined_25 dX6_joined_28 ⟨Nat.le_of_ble_eq_true rfl, Nat.le_of_ble_eq_true rfl⟩ (Nat.le_of_ble_eq_true rfl) (Nat.le_of_ble_eq_true rfl) ⟨⟨0, rfl, rfl⟩, hC, FrK.rf⟩
  · refine V_iload_n C dX6_joined_10 rfl ?_
    refine V_aload_n C dX6_joined_11 rfl ?_
    refine V_get C dX6_joined_12 fr_6_153 hg rfl ?_
    refine V_alen C dX6_joined_15 hsg rfl ?_
    refine V_icmplt (tgt := 29) C dX6_joined_16 (by decide) (fun hb2 => ?_) (fun hb2 => ?_)
    · obtain ⟨k, hk, rfl⟩ := badI_not (a := b) (n := (zMs s j).length) (by omega) (fun h => h.elim hb (fun h => absurd hb2 (Int32.not_lt.mpr h)))
      have hpw : pwF (posL (zMs s j)) k (npL (zMs s j)) < npL (zMs s j) := pwF_lt (npL_pos hi2 hi1) (by rw [(npL_spec hi2).2.2]; exact hk)
      have e : spJoin s (nI j) (nI k) = (0, joinI (zMs s j) (zLk s j) k, s) := by unfold spJoin; rw [if_neg hga, ej, if_neg (fun h => h.elim hb (fun h => absurd hb2 (Int32.not_lt.mpr h))), nI_clamp (by omega)]
      rw [e] at Q
      refine V_aload_n C dX6_joined_29 rfl ?_
      refine V_aload_n C dX6_joined_30 rfl ?_
      refine V_iload_n C dX6_joined_31 rfl ?_
      refine V_invV C dX6_joined_32 hg rfl (c_partWith (30 + 3 * j) (32 + 3 * j) (npL (zMs s j)) k (posL (zMs s j)) ft _ _ _ _ _ _ _ _ hg hst hft (by omega) (fun i _ => by have := posL_le (zMs s j) i; omega) (by omega)) mv_6_156 rfl (Nat.le_of_ble_eq_true rfl) ⟨Nat.le_of_ble_eq_true rfl, Nat.le_of_ble_eq_true rfl⟩ ⟨Nat.le_of_ble_eq_true rfl, Nat.le_of_ble_eq_true rfl⟩ (fun _ _ _ h => VT_no h) (fun v ad1 F1 hp => ?_)
      obtain ⟨rfl, rfl, rfl⟩ := hp
      refine V_invV C dX6_joined_35 hg rfl (c_lacks (30 + 3 * j) _ _ _ _ _ _ _ _ (zLk s j) (pwF (posL (zMs s j)) k (npL (zMs s j))) hg hw64 (by omega)) mv_6_159 rfl (Nat.le_of_ble_eq_true rfl) ⟨Nat.le_of_ble_eq_true rfl, Nat.le_of_ble_eq_true rfl⟩ ⟨Nat.le_of_ble_eq_true rfl, Nat.le_of_ble_eq_true rfl⟩ (fun _ _ _ h => VT_no h) (fun v ad1 F1 hp => ?_)
      obtain ⟨rfl, rfl, rfl⟩ := hp
      have ejI : joinI (zMs s j) (zLk s j) k = if (zLk s j).testBit (pwF (posL (zMs s j)) k (npL (zMs s j))) = true then -1 else nI ((zMs s j).getD k 0) := rfl
      rw [ejI] at Q
      by_cases hbit : (zLk s j).testBit (pwF (posL (zMs s j)) k (npL (zMs s j))) = true
      · rw [if_pos hbit] at Q ⊢
        refine V_ifeq_f (tgt := 45) C dX6_joined_38 (by decide) (by decide) ?_
        refine V_iconst (v := (-1)) C dX6_joined_41 rfl ?_
        refine V_goto (tgt := 51) C dX6_joined_42 (by decide) ?_
        exact V_ireturn C Q dX6_joined_51 rfl (Nat.le_of_ble_eq_true rfl) (Nat.le_of_ble_eq_true rfl) ⟨rfl, rfl, hC, FrK.rf⟩
      · rw [if_neg hbit] at Q ⊢
        refine V_ifeq_t (tgt := 45) C dX6_joined_38 (by decide) rfl ?_
        refine V_aload_n C dX6_joined_45 rfl ?_
        refine V_get C dX6_joined_46 fr_6_153 hg rfl ?_
        refine V_iload_n C dX6_joined_49 rfl ?_
        refine V_iald C dX6_joined_50 hsg rfl hk (by omega) ?_
        refine V_nm (hfs k hk) ?_
        exact V_ireturn C Q dX6_joined_51 rfl (Nat.le_of_ble_eq_true rfl) (Nat.le_of_ble_eq_true rfl) ⟨rfl, rfl, hC, FrK.rf⟩
    · rw [show spJoin s (nI j) b = (1, 0, s) by unfold spJoin; rw [if_neg hga, ej, if_pos (Or.inr (Int32.not_lt.mp hb2))]] at Q
      exact V_throwS C Q rfl (th_IOB 97 _ sw_97) dX6_joined_19 dX6_joined_22 dX6_joined_23 dX6_joined_25 dX6_joined_28 ⟨Nat.le_of_ble_eq_true rfl, Nat.le_of_ble_eq_true rfl⟩ (Nat.le_of_ble_eq_true rfl) (Nat.le_of_ble_eq_true rfl) ⟨⟨0, rfl, rfl⟩, hC, FrK.rf⟩
set_option maxHeartbeats 400000 in
set_option maxRecDepth 100000 in
/-- receipt -/
theorem c_receipt {l : Launch} {D : Dx} {b0 : Nat} {ad : Nat → Nat} {F : Fn} (s : St) (a : Int32) (hC : CRep D ad F s) (hI : Inv s) : Ct l D b0 yX6_receipt (wsA yX6_receipt cX6_receipt 2 (some .int)) (rX 6) [.ref (ad 0), .int a] ad F (PoS D ad F (spRcp s a)) (PxS D ad F [eIOB] (spRcp s a)) := by
  refine Ct.of (by decide +kernel) (by simp [Value.category]) (Nat.le_of_ble_eq_true rfl) (fun X eD eb el C Q => ?_)
  subst eD; subst eb; subst el
  have hM := hC.1
  have hT := hC.2.1
  have ht := hT.1
  have hl := hT.2.1.1
  have hnp := (npL_spec hl).1
  unfold kMain at hM
  unfold TxO at ht
  have hmc := hI.2.1
  obtain ⟨fr, hra, hfr⟩ := hC.2.2.2.1
  have hrl : (zRcp s).length ≤ 20 := by rw [hI.2.2.2.2.1]; exact Nat.le_trans (List.length_filter_le _ _) (by rw [List.length_range]; exact hmc)
  refine V_iload_n C dX6_receipt_0 rfl ?_
  refine V_iflt (tgt := 21) C dX6_receipt_1 (by decide) (fun h1 => ?_) (fun h1 => ?_)
  · rw [show spRcp s a = (1, 0, s) from if_pos (Or.inl h1)] at Q
    exact V_throwS C Q rfl (th_IOB 163 _ sw_163) dX6_receipt_21 dX6_receipt_24 dX6_receipt_25 dX6_receipt_27 dX6_receipt_30 ⟨Nat.le_of_ble_eq_true rfl, Nat.le_of_ble_eq_true rfl⟩ (Nat.le_of_ble_eq_true rfl) (Nat.le_of_ble_eq_true rfl) ⟨⟨0, rfl, rfl⟩, hC, FrK.rf⟩
  · refine V_iload_n C dX6_receipt_4 rfl ?_
    refine V_aload_n C dX6_receipt_5 rfl ?_
    refine V_get C dX6_receipt_6 fr_6_30 hM rfl ?_
    refine V_icmpge (tgt := 21) C dX6_receipt_9 (by decide) (fun h2 => ?_) (fun h2 => ?_)
    · rw [show spRcp s a = (1, 0, s) from if_pos (Or.inr h2)] at Q
      exact V_throwS C Q rfl (th_IOB 163 _ sw_163) dX6_receipt_21 dX6_receipt_24 dX6_receipt_25 dX6_receipt_27 dX6_receipt_30 ⟨Nat.le_of_ble_eq_true rfl, Nat.le_of_ble_eq_true rfl⟩ (Nat.le_of_ble_eq_true rfl) (Nat.le_of_ble_eq_true rfl) ⟨⟨0, rfl, rfl⟩, hC, FrK.rf⟩
    · have hga : ¬ (a < 0 ∨ nI (zRcp s).length ≤ a) := fun h => h.elim h1 h2
      obtain ⟨j, hj, rfl⟩ := badI_not (a := a) (n := (zRcp s).length) (by omega) hga
      have ej : (nI j).toNatClampNeg = j := nI_clamp (by omega)
      rw [show spRcp s (nI j) = (0, nI ((zRcp s).getD j 0), s) by unfold spRcp; rw [if_neg hga, ej]] at Q
      refine V_iload_n C dX6_receipt_12 rfl ?_
      refine V_aload_n C dX6_receipt_13 rfl ?_
      refine V_get C dX6_receipt_14 fr_6_26 hM rfl ?_
      refine V_alen C dX6_receipt_17 hra rfl ?_
      refine V_icmplt_t (tgt := 31) C dX6_receipt_18 (by decide) (nI_lt (a := j) (b := 20) (by omega) (by decide)) ?_
      refine V_aload_n C dX6_receipt_31 rfl ?_
      refine V_get C dX6_receipt_32 fr_6_26 hM rfl ?_
      refine V_iload_n C dX6_receipt_35 rfl ?_
      refine V_iald C dX6_receipt_36 hra rfl (by omega) (by decide) ?_
      refine V_nm (hfr j hj) ?_
      exact V_ireturn C Q dX6_receipt_37 rfl (Nat.le_of_ble_eq_true rfl) (Nat.le_of_ble_eq_true rfl) ⟨rfl, rfl, hC, FrK.rf⟩
