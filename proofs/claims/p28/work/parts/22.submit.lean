/-! ===== submit ===== -/
theorem RowAt.ad {D : Dx} {ad ad' : Nat → Nat} {F : Fn} {o a : Nat} {L : List Nat} (h : RowAt D ad F o a L) (e : ad' a = ad a) (eL : ∀ c ∈ L, ad' c = ad c) : RowAt D ad' F o a L := by
  obtain ⟨h1, h2, f, h3, h4⟩ := h
  refine ⟨by rw [e]; exact h1, h2, f, h3, fun j hj => ?_⟩
  rw [h4 j hj, List.getElem?_eq_getElem hj]
  show some (ad _) = some (ad' _)
  rw [eL _ (List.getElem_mem hj)]
/-- cells that stood before the new message -/
def old (mc x : Nat) : Prop := x < 30 + 3 * mc ∨ (100 ≤ x ∧ x < 100 + 10 * mc) ∨ 300 ≤ x
/-- the codes of the first i parts of message m -/
def nps (m i : Nat) : List Nat := (List.range i).map (fun p => 100 + 10 * m + p)
def nwP (m v : Nat) (f : Nat → Nat) (c : Nat) : Nat := if 100 + 10 * m ≤ c ∧ c < 110 + 10 * m then v else f c
def nwS (s : St) (r life : Nat) : St := (zNow s, zMc s + 1, [], zRcp s, zUp s, zWn s, zTk s, va_up (zRw s) (2 * (r % 3)) (zRw s (2 * (r % 3)) ++ nps (zMc s) (npL (zTxt s))), va_up (zSt s) (zMc s) 0, va_up (zRc s) (zMc s) r, va_up (zEn s) (zMc s) (zNow s + life), va_up (zLk s) (zMc s) (2 ^ npL (zTxt s) - 1), va_up (zMs s) (zMc s) (zTxt s), nwP (zMc s) 0 (zPf s), nwP (zMc s) (zNow s) (zPt s), nwP (zMc s) 0 (zPw s), zKw s, zSe s, zLa s)
theorem nps_mem {m i c : Nat} : c ∈ nps m i ↔ 100 + 10 * m ≤ c ∧ c < 100 + 10 * m + i := by
  unfold nps
  rw [List.mem_map]
  constructor
  · rintro ⟨p, hp, rfl⟩; have := List.mem_range.mp hp; omega
  · intro h; exact ⟨c - (100 + 10 * m), List.mem_range.mpr (by omega), by omega⟩
theorem nps_len {m i : Nat} : (nps m i).length = i := by unfold nps; rw [List.length_map, List.length_range]
theorem nps_suc {m i : Nat} : nps m (i + 1) = nps m i ++ [100 + 10 * m + i] := by unfold nps; rw [List.range_succ, List.map_append]; rfl
theorem nps_nd {m i : Nat} : (nps m i).Nodup := by
  unfold nps
  refine List.pairwise_map.mpr (List.Pairwise.imp (fun h => ?_) (List.nodup_range))
  omega
theorem CRep.sub {D : Dx} {ad ad' : Nat → Nat} {F G : Fn} {s : St} {r life j : Nat} (hC : CRep D ad F s) (hI : Inv s) (hmc : zMc s < 20) (ej : j = r % 3) (ea : ∀ x, old (zMc s) x → ad' x = ad x) (eF : ∀ x, old (zMc s) x → x ∉ [0, 1, 4, 14 + 2 * j, 20 + 2 * j] → G x = F x)
    (g0 : kMain ad' G (zNow s) (zMc s + 1) (zRcp s).length) (g1 : TextAt D ad' G 1 2 3 []) (g4 : kMsA D ad' G (zMc s + 1)) (gr : RowAt D ad' G (14 + 2 * j) (20 + 2 * j) (zRw s (2 * j) ++ nps (zMc s) (npL (zTxt s))))
    (gm : MsgAt G (30 + 3 * zMc s) (nI (zMc s)) (nI r) (nI (zNow s + life)) (ad' (11 + j)) (ad' (31 + 3 * zMc s)) (ad' (32 + 3 * zMc s)) (nI (npL (zTxt s))) (nI 0) (nI (2 ^ npL (zTxt s) - 1)))
    (gm1 : ∃ f : Nat → Int32, G (31 + 3 * zMc s) = some (aI D (zTxt s).length f) ∧ ∀ j, j < (zTxt s).length → f j = nI ((zTxt s).getD j 0))
    (gm2 : ∃ f : Nat → Int32, G (32 + 3 * zMc s) = some (aI D (npL (zTxt s) + 1) f) ∧ ∀ j, j ≤ npL (zTxt s) → f j = nI (posL (zTxt s) j))
    (gp : ∀ p, p < npL (zTxt s) → G (100 + 10 * zMc s + p) = some (oB 2 [.ref (ad' (30 + 3 * zMc s)), .int (nI p), .int 0, .int (nI (zNow s)), .int 0]))
    (gf : ∀ x, (33 + 3 * zMc s ≤ x ∧ x < 90) ∨ (110 + 10 * zMc s ≤ x ∧ x < 300) → G x = none) : CRep D ad' G (nwS s r life) := by
  unfold old at ea eF
  have hnp := (npL_spec hI.2.2.1).1
  have e' : ∀ x, (x < 30 + 3 * zMc s ∨ (100 ≤ x ∧ x < 100 + 10 * zMc s)) → x ≠ 0 → x ≠ 1 → x ≠ 4 → x ≠ 14 + 2 * j → x ≠ 20 + 2 * j → G x = F x := fun x h1 h2 h3 h4 h5 h6 => eF x (by omega) (by simp [h2, h3, h4, h5, h6])
  refine ⟨g0, g1, g4, hC.2.2.2.1.kept (e' 5 (by omega) (by omega) (by omega) (by omega) (by omega) (by omega)), ?_, ?_, fun l hl => ?_, fun k hk => ?_, fun m hm => ?_, fun m hm p hp => ?_, fun m h1 h2 => ?_⟩
  · obtain ⟨f, h1, h2⟩ := hC.2.2.2.2.1
    exact ⟨f, (e' 6 (by omega) (by omega) (by omega) (by omega) (by omega) (by omega)).trans h1, fun l hl => by rw [ea (11 + l) (by omega)]; exact h2 l hl⟩
  · have h := hC.2.2.2.2.2.1.kept (e' 7 (by omega) (by omega) (by omega) (by omega) (by omega) (by omega)) (e' 8 (by omega) (by omega) (by omega) (by omega) (by omega) (by omega)) (e' 9 (by omega) (by omega) (by omega) (by omega) (by omega) (by omega)) (e' 10 (by omega) (by omega) (by omega) (by omega) (by omega) (by omega))
    refine ⟨?_, h.2⟩
    have := h.1
    unfold RcpAt at this ⊢
    rw [ea 8 (by omega), ea 9 (by omega), ea 10 (by omega)]
    exact this
  · have h := hC.2.2.2.2.2.2.1 l hl
    unfold LinkAt at h ⊢
    rw [ea (14 + 2 * l) (by omega), ea (15 + 2 * l) (by omega), e' (11 + l) (by omega) (by omega) (by omega) (by omega) (by omega) (by omega)]
    exact h
  · show RowAt D ad' G _ _ (va_up (zRw s) (2 * (r % 3)) _ k)
    rw [← ej]
    by_cases e : k = 2 * j
    · subst e; rw [up_s]; exact gr
    · rw [up_n e]
      refine ((hC.2.2.2.2.2.2.2.1 k hk).kept (e' _ (by omega) (by omega) (by omega) (by omega) (by omega) (by omega)) (e' _ (by omega) (by omega) (by omega) (by omega) (by omega) (by omega))).ad (ea _ (by omega)) (fun c hc => ea _ ?_)
      have hl := hI.2.2.2.2.2.2.1 (k / 2) (by omega)
      have hin : InRow s (k / 2) c := by
        by_cases e2 : k = 2 * (k / 2)
        · exact (hl.2.2.2.2.2.1 c (e2 ▸ hc)).1
        · exact (hl.2.2.2.2.2.2 c ((show k = 2 * (k / 2) + 1 by omega) ▸ hc)).1
      have := inr_eq hI hin
      omega
  · have hm : m < zMc s + 1 := hm
    show MsgAt G _ _ (nI (va_up (zRc s) (zMc s) r m)) (nI (va_up (zEn s) (zMc s) _ m)) (ad' (11 + va_up (zRc s) (zMc s) r m % 3)) _ _ (nI (npL (va_up (zMs s) (zMc s) (zTxt s) m))) (nI (va_up (zSt s) (zMc s) 0 m)) (nI (va_up (zLk s) (zMc s) _ m)) ∧ (∃ f : Nat → Int32, _ = some (aI D (va_up (zMs s) (zMc s) (zTxt s) m).length f) ∧ ∀ j, j < (va_up (zMs s) (zMc s) (zTxt s) m).length → f j = nI ((va_up (zMs s) (zMc s) (zTxt s) m).getD j 0)) ∧ ∃ f : Nat → Int32, _ = some (aI D (npL (va_up (zMs s) (zMc s) (zTxt s) m) + 1) f) ∧ ∀ j, j ≤ npL (va_up (zMs s) (zMc s) (zTxt s) m) → f j = nI (posL (va_up (zMs s) (zMc s) (zTxt s) m) j)
    by_cases e : m = zMc s
    · subst e
      simp only [up_s]
      rw [← ej]
      exact ⟨gm, gm1, gm2⟩
    · simp only [up_n e]
      have h := hC.2.2.2.2.2.2.2.2.1 m (by omega)
      refine ⟨?_, h.2.1.imp fun f hf => ⟨(e' _ (by omega) (by omega) (by omega) (by omega) (by omega) (by omega)).trans hf.1, hf.2⟩, h.2.2.imp fun f hf => ⟨(e' _ (by omega) (by omega) (by omega) (by omega) (by omega) (by omega)).trans hf.1, hf.2⟩⟩
      have h1 := h.1
      unfold MsgAt at h1 ⊢
      rw [ea (11 + zRc s m % 3) (by omega), ea (31 + 3 * m) (by omega), ea (32 + 3 * m) (by omega), e' (30 + 3 * m) (by omega) (by omega) (by omega) (by omega) (by omega) (by omega)]
      exact h1
  · have hm : m < zMc s + 1 := hm
    have hp : p < npL (va_up (zMs s) (zMc s) (zTxt s) m) := hp
    show G _ = some (oB 2 [.ref (ad' (30 + 3 * m)), .int (nI p), .int (nI (nwP (zMc s) 0 (zPf s) _)), .int (nI (nwP (zMc s) (zNow s) (zPt s) _)), .int (nI (nwP (zMc s) 0 (zPw s) _))])
    by_cases e : m = zMc s
    · subst e
      rw [up_s] at hp
      unfold nwP
      rw [if_pos (by omega), if_pos (by omega), if_pos (by omega)]
      exact gp p hp
    · rw [up_n e] at hp
      have hl9 := (npL_spec (hI.2.2.2.2.2.1 m (by omega)).2.1).1
      unfold nwP
      rw [if_neg (by omega), if_neg (by omega), if_neg (by omega), ea (30 + 3 * m) (by omega)]
      exact (e' _ (by omega) (by omega) (by omega) (by omega) (by omega) (by omega)).trans (hC.2.2.2.2.2.2.2.2.2.1 m (by omega) p hp)
  · have h1 : zMc s + 1 ≤ m := h1
    exact ⟨gf _ (by omega), gf _ (by omega), gf _ (by omega), fun p hp => gf _ (by omega)⟩
set_option maxHeartbeats 400000 in
set_option maxRecDepth 100000 in
/-- linkAt -/
theorem c_linkAtK {l : Launch} {D : Dx} {b0 : Nat} {ad : Nat → Nat} {F : Fn} (now mc rc : Nat) (a : Int32) (hM0 : kMain ad F now mc rc) (hLk : kLkA D ad F) : Ct l D b0 yX6_linkAt (wsA yX6_linkAt cX6_linkAt 2 (some (.object "Shortmessage$Link"))) (rX 6) [.ref (ad 0), .int a] ad F (fun v ad1 F1 => ¬ (a < 0 ∨ nI 3 ≤ a) ∧ v = some (.ref (ad (11 + a.toNatClampNeg))) ∧ ad = ad1 ∧ F = F1) (fun E ad1 F1 => (a < 0 ∨ nI 3 ≤ a) ∧ E = eIOB ∧ ad = ad1 ∧ F = F1) := by
  refine Ct.of (by decide +kernel) (by simp [Value.category]) (Nat.le_of_ble_eq_true rfl) (fun X eD eb el C Q => ?_)
  subst eD; subst eb; subst el
  have hM := hM0
  unfold kMain at hM
  obtain ⟨fl, hla, hfl⟩ := hLk
  refine V_iload_n C dX6_linkAt_0 rfl ?_
  refine V_iflt (tgt := 13) C dX6_linkAt_1 (by decide) (fun h1 => ?_) (fun h1 => ?_)
  · exact V_throwS C Q rfl (th_IOB 223 _ sw_223) dX6_linkAt_13 dX6_linkAt_16 dX6_linkAt_17 dX6_linkAt_19 dX6_linkAt_22 ⟨Nat.le_of_ble_eq_true rfl, Nat.le_of_ble_eq_true rfl⟩ (Nat.le_of_ble_eq_true rfl) (Nat.le_of_ble_eq_true rfl) ⟨Or.inl h1, rfl, rfl, rfl⟩
  · refine V_iload_n C dX6_linkAt_4 rfl ?_
    refine V_aload_n C dX6_linkAt_5 rfl ?_
    refine V_get C dX6_linkAt_6 fr_6_35 hM rfl ?_
    refine V_alen C dX6_linkAt_9 hla rfl ?_
    refine V_icmplt (tgt := 23) C dX6_linkAt_10 (by decide) (fun h2 => ?_) (fun h2 => ?_)
    · have hga : ¬ (a < 0 ∨ nI 3 ≤ a) := fun h => h.elim h1 (fun h => absurd h2 (Int32.not_lt.mpr h))
      obtain ⟨j, hj, rfl⟩ := badI_not (a := a) (n := 3) (by decide) hga
      have ej : (nI j).toNatClampNeg = j := nI_clamp (by omega)
      rw [ej] at Q
      refine V_aload_n C dX6_linkAt_23 rfl ?_
      refine V_get C dX6_linkAt_24 fr_6_35 hM rfl ?_
      refine V_iload_n C dX6_linkAt_27 rfl ?_
      refine V_aald C dX6_linkAt_28 hla rfl rfl hj (by decide) ?_
      refine V_rf (r' := some (ad (11 + j))) (hfl j hj) ?_
      exact V_areturn C Q dX6_linkAt_29 (Or.inl ⟨_, rfl⟩) (Or.inr ⟨_, rfl⟩) (Nat.le_of_ble_eq_true rfl) (Nat.le_of_ble_eq_true rfl) ⟨hga, rfl, rfl, rfl⟩
    · exact V_throwS C Q rfl (th_IOB 223 _ sw_223) dX6_linkAt_13 dX6_linkAt_16 dX6_linkAt_17 dX6_linkAt_19 dX6_linkAt_22 ⟨Nat.le_of_ble_eq_true rfl, Nat.le_of_ble_eq_true rfl⟩ (Nat.le_of_ble_eq_true rfl) (Nat.le_of_ble_eq_true rfl) ⟨Or.inr (Int32.not_lt.mp h2), rfl, rfl, rfl⟩
set_option maxHeartbeats 400000 in
set_option maxRecDepth 100000 in
/-- linkOf -/
theorem c_linkOfK {l : Launch} {D : Dx} {b0 : Nat} {ad : Nat → Nat} {F : Fn} (now mc rc : Nat) (r : Nat) (hM0 : kMain ad F now mc rc) (hLk : kLkA D ad F) (hr9 : r < 9) : Ct l D b0 yX6_linkOf (wsA yX6_linkOf cX6_linkOf 2 (some (.object "Shortmessage$Link"))) (rY 7) [.ref (ad 0), .int (nI r)] ad F (pRd (some (.ref (ad (11 + r % 3)))) ad F) noX := by
  refine Ct.of (by decide +kernel) (by simp [Value.category]) (Nat.le_of_ble_eq_true rfl) (fun X eD eb el C Q => ?_)
  subst eD; subst eb; subst el
  have hM := hM0
  unfold kMain at hM
  refine V_aload_n C dX6_linkOf_0 rfl ?_
  refine V_iload_n C dX6_linkOf_1 rfl ?_
  refine V_iconst (v := 3) C dX6_linkOf_2 rfl ?_
  refine V_irem C dX6_linkOf_3 (by decide) ?_
  refine V_nm (pk_rem (d := 3) (by omega) (by decide) (by decide)) ?_
  refine V_invV C dX6_linkOf_4 hM rfl (c_linkAtK now mc rc (nI (r % 3)) hM0 hLk) mv_6_182 rfl (Nat.le_of_ble_eq_true rfl) ⟨Nat.le_of_ble_eq_true rfl, Nat.le_of_ble_eq_true rfl⟩ ⟨Nat.le_of_ble_eq_true rfl, Nat.le_of_ble_eq_true rfl⟩ ?_ ?_
  · intro E ad1 F1 h
    obtain ⟨h1, -⟩ := h
    exact absurd h1 (fun h => h.elim (nI_pos (by omega)) (nI_ge (b := 3) (by omega) (by decide)))
  intro v ad1 F1 hp
  obtain ⟨-, rfl, rfl, rfl⟩ := hp
  rw [nI_clamp (by omega)]
  exact V_areturn C Q dX6_linkOf_7 (Or.inl ⟨_, rfl⟩) (Or.inr ⟨_, rfl⟩) (Nat.le_of_ble_eq_true rfl) (Nat.le_of_ble_eq_true rfl) ⟨rfl, rfl, rfl⟩
abbrev rS : Room := { frames := 9, cells := 13, slots := 900, locals := 360 }
theorem kMain.ad {ad ad' : Nat → Nat} {F : Fn} {a b c : Nat} (h : kMain ad F a b c) (e : ∀ x, x < 30 → ad' x = ad x) : kMain ad' F a b c := by
  unfold kMain at h ⊢
  rw [e 1 (by omega), e 4 (by omega), e 5 (by omega), e 6 (by omega), e 7 (by omega)]
  exact h
theorem kLkA.ad {D : Dx} {ad ad' : Nat → Nat} {F : Fn} (h : kLkA D ad F) (e : ∀ x, x < 30 → ad' x = ad x) : kLkA D ad' F := h.imp fun f hf => ⟨hf.1, fun l hl => by rw [e (11 + l) (by omega)]; exact hf.2 l hl⟩
def spSub (s : St) (a b : Int32) : Ans := if a < 0 ∨ nI 9 ≤ a then (1, 0, s) else if b < 1 ∨ 1000 < b then (1, 0, s) else if (zTxt s).length = 0 ∨ 20 ≤ zMc s then (2, 0, s) else (0, nI (zMc s), nwS s a.toNatClampNeg b.toNatClampNeg)
set_option maxHeartbeats 2000000 in
set_option maxRecDepth 100000 in
/-- submit -/
theorem c_submit {l : Launch} {D : Dx} {b0 : Nat} {ad : Nat → Nat} {F : Fn} (s : St) (a b : Int32) (hC : CRep D ad F s) (hI : Inv s) : Ct l D b0 yX6_submit (wsA yX6_submit cX6_submit 5 (some .int)) rS [.ref (ad 0), .int a, .int b] ad F (PoS D ad F (spSub s a b)) (PxS D ad F [eIAE, eISE] (spSub s a b)) := by
  refine Ct.of (by decide +kernel) (by simp [Value.category]) (Nat.le_of_ble_eq_true rfl) (fun X eD eb el C Q => ?_)
  subst eD; subst eb; subst el
  have hM := hC.1
  have hmc := hI.2.1
  unfold kMain at hM
  refine V_aload_n C dX6_submit_0 rfl ?_
  refine V_iload_n C dX6_submit_1 rfl ?_
  refine V_invV C dX6_submit_2 hM rfl (c_requireReceiver s a hC hI) mv_6_106 rfl (Nat.le_of_ble_eq_true rfl) ⟨Nat.le_of_ble_eq_true rfl, Nat.le_of_ble_eq_true rfl⟩ ⟨Nat.le_of_ble_eq_true rfl, Nat.le_of_ble_eq_true rfl⟩ ?_ ?_
  · intro E ad1 F1 h
    obtain ⟨h1, rfl, rfl, rfl⟩ := h
    rw [show spSub s a b = (1, 0, s) from if_pos h1] at Q
    exact VT_out C Q (Nat.le_of_ble_eq_true rfl) (Nat.le_of_ble_eq_true rfl) ⟨⟨0, rfl, rfl⟩, hC, FrK.rf⟩
  intro v ad1 F1 hp
  obtain ⟨rfl, hga, rfl, rfl⟩ := hp
  obtain ⟨r, hr, rfl⟩ := badI_not (n := 9) (by decide) hga
  have er : (nI r).toNatClampNeg = r := nI_clamp (by omega)
  refine V_iload_n C dX6_submit_5 rfl ?_
  refine V_iconst (v := 1) C dX6_submit_6 rfl ?_
  refine V_icmplt (tgt := 17) C dX6_submit_7 (by decide) (fun h1 => ?_) (fun h1 => ?_)
  · rw [show spSub s (nI r) b = (1, 0, s) by unfold spSub; rw [if_neg hga, if_pos (Or.inl h1)]] at Q
    exact V_throwS C Q rfl (th_IAE 109 _ sw_109) dX6_submit_17 dX6_submit_20 dX6_submit_21 dX6_submit_23 dX6_submit_26 ⟨Nat.le_of_ble_eq_true rfl, Nat.le_of_ble_eq_true rfl⟩ (Nat.le_of_ble_eq_true rfl) (Nat.le_of_ble_eq_true rfl) ⟨⟨0, rfl, rfl⟩, hC, FrK.rf⟩
  · refine V_iload_n C dX6_submit_10 rfl ?_
    refine V_sipush (v := 1000) C dX6_submit_11 (by decide) ?_
    refine V_icmple (tgt := 27) C dX6_submit_14 (by decide) (fun h2 => ?_) (fun h2 => ?_)
    · have hgb : ¬ (b < 1 ∨ 1000 < b) := fun h => h.elim h1 (fun h => absurd h2 (Int32.not_le.mpr h))
      obtain ⟨life, hlife, rfl⟩ := nI_of2 (n := 1000) (M := 1000) rfl (fun h => h1 (Int32.lt_trans h (by decide))) h2
      have eb : (nI life).toNatClampNeg = life := nI_clamp (by omega)
      have hT := hC.2.1
      have ht := hT.1
      unfold TxO at ht
      obtain ⟨fm, hma, hfm⟩ := hC.2.2.1
      refine V_aload_n C dX6_submit_27 rfl ?_
      refine V_get C dX6_submit_28 fr_6_10 hM rfl ?_
      refine V_get C dX6_submit_31 fr_6_57 ht rfl ?_
      refine V_ifeq (tgt := 49) C dX6_submit_34 (by decide) (fun h3 => ?_) (fun h3 => ?_)
      · rw [show spSub s (nI r) (nI life) = (2, 0, s) by unfold spSub; rw [if_neg hga, if_neg hgb, if_pos (Or.inl ((nI_eq (b := 0) (by have := hI.2.2.1; omega) (by decide)).mp h3))]] at Q
        exact V_throwS C Q rfl (th_ISE 111 _ sw_111) dX6_submit_49 dX6_submit_52 dX6_submit_53 dX6_submit_55 dX6_submit_58 ⟨Nat.le_of_ble_eq_true rfl, Nat.le_of_ble_eq_true rfl⟩ (Nat.le_of_ble_eq_true rfl) (Nat.le_of_ble_eq_true rfl) ⟨⟨1, rfl, rfl⟩, hC, FrK.rf⟩
      · have hne : ¬ (zTxt s).length = 0 := fun e => h3 (by rw [e]; rfl)
        refine V_aload_n C dX6_submit_37 rfl ?_
        refine V_get C dX6_submit_38 fr_6_22 hM rfl ?_
        refine V_aload_n C dX6_submit_41 rfl ?_
        refine V_get C dX6_submit_42 fr_6_18 hM rfl ?_
        refine V_alen C dX6_submit_45 hma rfl ?_
        refine V_icmplt (tgt := 59) C dX6_submit_46 (by decide) (fun h4 => ?_) (fun h4 => ?_)
        · have hm20 : zMc s < 20 := Nat.lt_of_not_le (fun h => nI_nlt (a := zMc s) (b := 20) h (by omega) h4)
          rw [show spSub s (nI r) (nI life) = (0, nI (zMc s), nwS s r life) by unfold spSub; rw [if_neg hga, if_neg hgb, if_neg (fun h => h.elim hne (fun h => absurd hm20 (Nat.not_lt.mpr h))), er, eb]] at Q
          obtain ⟨j, ej⟩ : ∃ j, j = r % 3 := ⟨_, rfl⟩
          obtain ⟨mc, emc⟩ : ∃ mc, mc = zMc s := ⟨_, rfl⟩
          have hj3 : j < 3 := by omega
          have hnp := (npL_spec hI.2.2.1).1
          have hfree : ∀ x, (x = 30 + 3 * mc ∨ x = 31 + 3 * mc ∨ x = 32 + 3 * mc ∨ (100 + 10 * mc ≤ x ∧ x < 110 + 10 * mc)) → F x = none := fun x hx => by
            have h := hC.2.2.2.2.2.2.2.2.2.2 mc (by omega) (by omega)
            rcases hx with rfl | rfl | rfl | hx
            · exact h.1
            · exact h.2.1
            · exact h.2.2.1
            · have := h.2.2.2 (x - (100 + 10 * mc)) (by omega)
              rwa [show 100 + 10 * mc + (x - (100 + 10 * mc)) = x by omega] at this
          refine G_new (30 + 3 * mc) C dX6_submit_59 nw_6_16 (hfree _ (by omega)) (Nat.le_of_ble_eq_true rfl) (Nat.le_of_ble_eq_true rfl) (fun ad1 F1 had1 hm1 hfr1 => ?_)
          rw [show ad 0 = ad1 0 from (had1 0 (by omega)).symm]
          have hM1 : kMain ad1 F1 (zNow s) (zMc s) (zRcp s).length := kMain.ad (hC.1.kept (hfr1 0 (by omega))) (fun x hx => had1 x (by omega))
          have hM := hM1
          unfold kMain at hM
          have hL1 : kLkA (xD X) ad1 F1 := kLkA.ad (hC.2.2.2.2.1.kept (hfr1 6 (by omega))) (fun x hx => had1 x (by omega))
          have hT1 := (TxtK hT (hfr1 1 (by omega)) (hfr1 2 (by omega)) (hfr1 3 (by omega))).ad (had1 2 (by omega)) (had1 3 (by omega))
          refine V_dup C dX6_submit_62 rfl ?_
          refine V_aload_n C dX6_submit_63 rfl ?_
          refine V_get C dX6_submit_64 fr_6_22 hM rfl ?_
          refine V_iload_n C dX6_submit_67 rfl ?_
          refine V_aload_n C dX6_submit_68 rfl ?_
          refine V_get C dX6_submit_69 fr_6_46 hM rfl ?_
          refine V_iload_n C dX6_submit_72 rfl ?_
          refine V_iadd C dX6_submit_73 ?_
          refine V_nm (nI_add _ _) ?_
          refine V_aload_n C dX6_submit_74 rfl ?_
          refine V_iload_n C dX6_submit_75 rfl ?_
          refine V_invV C dX6_submit_76 hM rfl (c_linkOfK _ _ _ r hM1 hL1 hr) mv_6_113 rfl (Nat.le_of_ble_eq_true rfl) ⟨Nat.le_of_ble_eq_true rfl, Nat.le_of_ble_eq_true rfl⟩ ⟨Nat.le_of_ble_eq_true rfl, Nat.le_of_ble_eq_true rfl⟩ (fun _ _ _ h => VT_no h) (fun v ad1 F1 hp => ?_)
          obtain ⟨rfl, rfl, rfl⟩ := hp
          rw [← ej, ← emc]
          refine V_aload_n C dX6_submit_79 rfl ?_
          refine V_get C dX6_submit_80 fr_6_10 hM rfl ?_
          refine V_invI C dX6_submit_83 (c_Message_init (30 + 3 * mc) 1 2 3 (31 + 3 * mc) (32 + 3 * mc) (ad1 (11 + j)) (nI mc) (nI r) (nI (zNow s + life)) (zTxt s) hm1 hT1 (fun e => hne (by rw [e]; rfl)) ((hfr1 _ (by omega)).trans (hfree _ (by omega))) ((hfr1 _ (by omega)).trans (hfree _ (by omega))) ⟨by omega, by omega, by omega, by omega, by omega, by omega, by omega, by omega, by omega, by omega, by omega, by omega⟩) mi_6_117 rfl (Nat.le_of_ble_eq_true rfl) ⟨Nat.le_of_ble_eq_true rfl, Nat.le_of_ble_eq_true rfl⟩ ⟨Nat.le_of_ble_eq_true rfl, Nat.le_of_ble_eq_true rfl⟩ (fun _ _ _ h => VT_no h) (fun v ad2 F2 hp => ?_)
          obtain ⟨rfl, had2, hm2, hsg, hsa, hf2⟩ := hp
          simp only [List.mem_cons, List.not_mem_nil, or_false, not_or] at had2 hf2
          rw [show ad1 0 = ad2 0 from (had2 0 (by omega)).symm, show ad1 (30 + 3 * mc) = ad2 (30 + 3 * mc) from (had2 _ (by omega)).symm]
          rw [show ad1 (11 + j) = ad2 (11 + j) from (had2 _ (by omega)).symm] at hm2
          have had : ∀ x, x ≠ 30 + 3 * mc → x ≠ 31 + 3 * mc → x ≠ 32 + 3 * mc → ad2 x = ad x := fun x h1 h2 h3 => (had2 x (by omega)).trans (had1 x h1)
          have hf : ∀ x, x ≠ 30 + 3 * mc → x ≠ 31 + 3 * mc → x ≠ 32 + 3 * mc → F2 x = F x := fun x h1 h2 h3 => (hf2 x (by omega)).trans (hfr1 x h1)
          have hM2 : kMain ad2 F2 (zNow s) (zMc s) (zRcp s).length := kMain.ad (hC.1.kept (hf 0 (by omega) (by omega) (by omega))) (fun x hx => had x (by omega) (by omega) (by omega))
          have hM := hM2
          unfold kMain at hM
          have hma := (hf 4 (by omega) (by omega) (by omega)).trans hma
          have hm := hm2
          unfold MsgAt at hm
          refine V_astore_n C dX6_submit_86 (by decide) ?_
          refine V_aload_n C dX6_submit_87 rfl ?_
          refine V_get C dX6_submit_88 fr_6_18 hM rfl ?_
          refine V_aload_n C dX6_submit_91 rfl ?_
          refine V_get C dX6_submit_92 fr_6_22 hM rfl ?_
          refine V_aload_n C dX6_submit_95 rfl ?_
          rw [← emc]
          refine G_aast C dX6_submit_96 hma rfl hm rfl rfl (show mc < 20 by omega) (by decide) (fun F3 hma hfr => ?_)
          have hM := (hfr 0 (by omega)).trans hM
          have hfr3 := hfr
          refine V_aload_n C dX6_submit_97 rfl ?_
          refine V_dup C dX6_submit_98 rfl ?_
          refine V_get C dX6_submit_99 fr_6_22 hM rfl ?_
          refine V_iconst (v := 1) C dX6_submit_102 rfl ?_
          refine V_iadd C dX6_submit_103 ?_
          refine V_nm (nI_add _ _) ?_
          refine G_put C dX6_submit_104 fp_6_22 hM rfl rfl (Nat.le_of_ble_eq_true rfl) (fun F4 hM hfr => ?_)
          dsimp only [List.set] at hM
          have hfr4 := hfr
          have hf4 : ∀ x, x ≠ 0 → x ≠ 4 → F4 x = F2 x := fun x h0 h4 => (hfr4 x h0).trans (hfr3 x h4)
          have hq0 := hC.2.2.2.2.2.2.2.1 (2 * j) (by omega)
          obtain ⟨-, -, -, -, hnd, hin6, -⟩ := hI.2.2.2.2.2.2.1 j hj3
          have hpa := fun x hx => prt_at hC hI (hin6 x hx).1
          have hpq : ∀ c ∈ zRw s (2 * j), 100 ≤ c ∧ c < 100 + 10 * mc := fun c hc => by have := inr_eq hI (hin6 c hc).1; omega
          have hlen := row_len hI (List.nodup_append.mp hnd).1 (fun c hc => (hin6 c hc).1)
          have hq4 : RowAt (xD X) ad2 F4 (14 + 2 * j) (20 + 2 * j) (zRw s (2 * j) ++ nps mc 0) := by
            rw [show nps mc 0 = [] from rfl, List.append_nil]
            refine (hq0.kept ((hf4 _ (by omega) (by omega)).trans (hf _ (by omega) (by omega) (by omega))) ((hf4 _ (by omega) (by omega)).trans (hf _ (by omega) (by omega) (by omega)))).ad (had _ (by omega) (by omega) (by omega)) (fun c hc => had _ ?_ ?_ ?_) <;> · have := hpq c hc; omega
          refine V_iconst (v := 0) C dX6_submit_107 rfl ?_
          refine V_istore C dX6_submit_108 (by decide) ?_
          have loop : ∀ (d i k n : Nat) (ad' : Nat → Nat) (G : Fn), i + d = npL (zTxt s) → k + d ≤ 13 → n + 5 * d ≤ 900 → (∀ x, (x < 100 + 10 * mc ∨ 110 + 10 * mc ≤ x) → ad' x = ad2 x) → (∀ x, (x < 100 + 10 * mc ∨ 110 + 10 * mc ≤ x) → x ≠ 14 + 2 * j → x ≠ 20 + 2 * j → G x = F4 x) →
              RowAt (xD X) ad' G (14 + 2 * j) (20 + 2 * j) (zRw s (2 * j) ++ nps mc i) → (∀ p, p < i → G (100 + 10 * mc + p) = some (oB 2 [.ref (ad' (30 + 3 * mc)), .int (nI p), .int 0, .int (nI (zNow s)), .int 0])) → (∀ p, i ≤ p → p < 10 → G (100 + 10 * mc + p) = none) →
              V X k n 110 [(0, .ref (ad' 0)), (1, .int (nI r)), (2, .int (nI life)), (3, .ref (ad' (30 + 3 * mc))), (4, .int (nI i))] [] ad' G := by
            intro d
            induction d with
            | zero =>
              intro i k n ad' G hd hk hn e1 e2 hR hN hZ
              have hi : i = npL (zTxt s) := by omega
              subst hi
              have hm := (e2 (30 + 3 * mc) (by omega) (by omega) (by omega)).trans ((hf4 _ (by omega) (by omega)).trans hm)
              have hM : kMain ad' G (zNow s) (zMc s + 1) (zRcp s).length := kMain.ad ((e2 0 (by omega) (by omega) (by omega)).trans hM) (fun x hx => e1 x (by omega))
              have hM0 := hM
              unfold kMain at hM
              have hT2 := (TxtK hT ((e2 1 (by omega) (by omega) (by omega)).trans ((hf4 1 (by omega) (by omega)).trans (hf 1 (by omega) (by omega) (by omega)))) ((e2 2 (by omega) (by omega) (by omega)).trans ((hf4 2 (by omega) (by omega)).trans (hf 2 (by omega) (by omega) (by omega)))) ((e2 3 (by omega) (by omega) (by omega)).trans ((hf4 3 (by omega) (by omega)).trans (hf 3 (by omega) (by omega) (by omega))))).ad ((e1 2 (by omega)).trans (had 2 (by omega) (by omega) (by omega))) ((e1 3 (by omega)).trans (had 3 (by omega) (by omega) (by omega)))
              have ht := hT2.1
              unfold TxO at ht
              refine V_iload C dX6_submit_110 rfl ?_
              refine V_aload_n C dX6_submit_112 rfl ?_
              refine V_get C dX6_submit_113 fr_6_120 hm rfl ?_
              refine V_icmpge_t (tgt := 149) C dX6_submit_116 (by decide) (Int32.le_refl _) ?_
              refine V_aload_n C dX6_submit_149 rfl ?_
              refine V_get C dX6_submit_150 fr_6_10 hM rfl ?_
              refine V_invV C dX6_submit_153 ht rfl (c_clear 1 2 3 (zTxt s) hT2 (by decide)) mv_6_69 rfl (Nat.le_of_ble_eq_true rfl) (by first | exact ⟨Nat.le_of_ble_eq_true rfl, Nat.le_of_ble_eq_true rfl⟩ | exact ⟨by show k + 0 ≤ 13; omega, by show n + 0 ≤ 900; omega⟩) (by first | exact ⟨Nat.le_of_ble_eq_true rfl, Nat.le_of_ble_eq_true rfl⟩ | exact ⟨by show k + 0 ≤ 13; omega, by show n + 0 ≤ 900; omega⟩) (fun _ _ _ h => VT_no h) (fun v ad1 G1 hp => ?_)
              obtain ⟨rfl, rfl, hT3, hfc⟩ := hp
              have hm := (hfc _ (by omega)).trans hm
              refine V_aload_n C dX6_submit_156 rfl ?_
              refine V_get C dX6_submit_157 fr_6_140 hm rfl ?_
              refine V_ireturn C Q dX6_submit_160 rfl (by show k + 0 ≤ 13; omega) (by show n + 0 ≤ 900; omega) ⟨rfl, by rw [emc], hC.sub hI hm20 ej (fun x hx => ?_) (fun x hx hx2 => ?_) ?_ hT3 ?_ ?_ ?_ ?_ ?_ (fun p hp => ?_) (fun x hx => ?_), fun x hx => ⟨by rw [(e1 x (by omega)).trans (had x (by omega) (by omega) (by omega)), (e1 0 (by omega)).trans (had 0 (by omega) (by omega) (by omega))], (hfc x (by omega)).trans ((e2 x (by omega) (by omega) (by omega)).trans ((hf4 x (by omega) (by omega)).trans (hf x (by omega) (by omega) (by omega))))⟩⟩
              · unfold old at hx
                exact (e1 x (by omega)).trans (had x (by omega) (by omega) (by omega))
              · unfold old at hx
                simp only [List.mem_cons, List.not_mem_nil, or_false, not_or] at hx2
                exact (hfc x (by omega)).trans ((e2 x (by omega) (by omega) (by omega)).trans ((hf4 x (by omega) (by omega)).trans (hf x (by omega) (by omega) (by omega))))
              · exact hM0.kept (hfc 0 (by omega))
              · refine ⟨_, (hfc 4 (by omega)).trans ((e2 4 (by omega) (by omega) (by omega)).trans ((hfr4 4 (by omega)).trans hma)), fun m hm => ?_⟩
                show va_up fm mc _ m = _
                by_cases e : m = mc
                · subst e; rw [up_s, if_pos (by omega), e1 _ (by omega)]
                · rw [up_n e, hfm m hm]
                  by_cases h : m < zMc s
                  · rw [if_pos h, if_pos (by omega), e1 _ (by omega), had _ (by omega) (by omega) (by omega)]
                  · rw [if_neg h, if_neg (by omega)]
              · rw [← emc]; exact hR.kept (hfc _ (by omega)) (hfc _ (by omega))
              · rw [← emc]
                unfold MsgAt
                rw [e1 (11 + j) (by omega), e1 (31 + 3 * mc) (by omega), e1 (32 + 3 * mc) (by omega)]
                exact hm
              · rw [← emc]; exact hsg.imp fun f hf5 => ⟨(hfc _ (by omega)).trans ((e2 _ (by omega) (by omega) (by omega)).trans ((hf4 _ (by omega) (by omega)).trans hf5.1)), hf5.2⟩
              · rw [← emc]; exact hsa.imp fun f hf5 => ⟨(hfc _ (by omega)).trans ((e2 _ (by omega) (by omega) (by omega)).trans ((hf4 _ (by omega) (by omega)).trans hf5.1)), hf5.2⟩
              · rw [← emc]; exact (hfc _ (by omega)).trans (hN p hp)
              · rw [← emc] at hx
                refine (hfc x (by omega)).trans ((e2 x (by omega) (by omega) (by omega)).trans ((hf4 x (by omega) (by omega)).trans ((hf x (by omega) (by omega) (by omega)).trans ?_)))
                rcases hx with hx | hx
                · have h := hC.2.2.2.2.2.2.2.2.2.2 ((x - 30) / 3) (by omega) (by omega)
                  rcases (show (x - 30) % 3 = 0 ∨ (x - 30) % 3 = 1 ∨ (x - 30) % 3 = 2 by omega) with e | e | e
                  · have := h.1; rwa [show 30 + 3 * ((x - 30) / 3) = x by omega] at this
                  · have := h.2.1; rwa [show 31 + 3 * ((x - 30) / 3) = x by omega] at this
                  · have := h.2.2.1; rwa [show 32 + 3 * ((x - 30) / 3) = x by omega] at this
                · have h := (hC.2.2.2.2.2.2.2.2.2.2 ((x - 100) / 10) (by omega) (by omega)).2.2.2 ((x - 100) % 10) (by omega)
                  rwa [show 100 + 10 * ((x - 100) / 10) + (x - 100) % 10 = x by omega] at h
            | succ d ih =>
              intro i k n ad' G hd hkc hnc e1 e2 hR hN hZ
              have hm := (e2 (30 + 3 * mc) (by omega) (by omega) (by omega)).trans ((hf4 _ (by omega) (by omega)).trans hm)
              rw [show ad2 (11 + j) = ad' (11 + j) from (e1 _ (by omega)).symm] at hm
              have hM := (e2 0 (by omega) (by omega) (by omega)).trans hM
              have hkL := hC.2.2.2.2.2.2.1 j hj3
              unfold LinkAt at hkL
              rw [show ad (14 + 2 * j) = ad' (14 + 2 * j) from ((e1 _ (by omega)).trans (had _ (by omega) (by omega) (by omega))).symm] at hkL
              have hk := (e2 (11 + j) (by omega) (by omega) (by omega)).trans ((hf4 _ (by omega) (by omega)).trans ((hf _ (by omega) (by omega) (by omega)).trans hkL))
              have hcq : ∀ c ∈ zRw s (2 * j) ++ nps mc i, c < 100 + 10 * mc + i := fun c hc => by
                rcases List.mem_append.mp hc with h | h
                · have := hpq c h; omega
                · have := nps_mem.mp h; omega
              refine V_iload C dX6_submit_110 rfl ?_
              refine V_aload_n C dX6_submit_112 rfl ?_
              refine V_get C dX6_submit_113 fr_6_120 hm rfl ?_
              refine V_icmpge_f (tgt := 149) C dX6_submit_116 (by decide) (nI_ge (a := i) (b := npL (zTxt s)) (by omega) (by omega)) ?_
              refine V_aload_n C dX6_submit_119 rfl ?_
              refine V_get C dX6_submit_120 fr_6_121 hm rfl ?_
              refine V_get C dX6_submit_123 fr_6_125 hk rfl ?_
              refine G_new (100 + 10 * mc + i) C dX6_submit_126 nw_6_129 (hZ i (Nat.le_refl _) (by omega)) (by show k + 1 ≤ 13; omega) (by show n + 5 ≤ 900; omega) (fun ad3 F5 had3 hp hfr5 => ?_)
              rw [show ad' 0 = ad3 0 from (had3 0 (by omega)).symm, show ad' (30 + 3 * mc) = ad3 (30 + 3 * mc) from (had3 _ (by omega)).symm, show ad' (14 + 2 * j) = ad3 (14 + 2 * j) from (had3 _ (by omega)).symm]
              have hM := (hfr5 0 (by omega)).trans hM
              refine V_dup C dX6_submit_129 rfl ?_
              refine V_aload_n C dX6_submit_130 rfl ?_
              refine V_iload C dX6_submit_131 rfl ?_
              refine V_aload_n C dX6_submit_133 rfl ?_
              refine V_get C dX6_submit_134 fr_6_46 hM rfl ?_
              refine V_invI C dX6_submit_137 (c_Part_init (100 + 10 * mc + i) (ad3 (30 + 3 * mc)) (nI i) (nI (zNow s)) hp) mi_6_131 rfl (Nat.le_of_ble_eq_true rfl) (by first | exact ⟨Nat.le_of_ble_eq_true rfl, Nat.le_of_ble_eq_true rfl⟩ | exact ⟨by show k + 1 + 0 ≤ 13; omega, by show n + 5 + 0 ≤ 900; omega⟩) (by first | exact ⟨Nat.le_of_ble_eq_true rfl, Nat.le_of_ble_eq_true rfl⟩ | exact ⟨by show k + 1 + 0 ≤ 13; omega, by show n + 5 + 0 ≤ 900; omega⟩) (fun _ _ _ h => VT_no h) (fun v ad4 F6 hp1 => ?_)
              obtain ⟨rfl, rfl, hp, hfp⟩ := hp1
              have hF : ∀ x, x ≠ 100 + 10 * mc + i → F6 x = G x := fun x hx => (hfp x hx).trans (hfr5 x hx)
              have hR3 := (hR.kept (hF _ (by omega)) (hF _ (by omega))).ad (had3 (20 + 2 * j) (by omega)) (fun c hc => had3 c (by have := hcq c hc; omega))
              have hq1 := hR3.1
              have hPr : Prts F6 (zRw s (2 * j) ++ nps mc i) := fun c hc => by
                have hlt := hcq c hc
                rcases List.mem_append.mp hc with h | h
                · have hh := hpa c h
                  have hh2 := hpq c h
                  exact ⟨_, (hF c (by omega)).trans ((e2 c (by omega) (by omega) (by omega)).trans ((hf4 c (by omega) (by omega)).trans ((hf c (by omega) (by omega) (by omega)).trans hh.2.2.2.2.2.2)))⟩
                · have hh := nps_mem.mp h
                  have h5 := hN (c - (100 + 10 * mc)) (by omega)
                  rw [show 100 + 10 * mc + (c - (100 + 10 * mc)) = c by omega] at h5
                  exact ⟨_, (hF c (by omega)).trans h5⟩
              refine V_invV C dX6_submit_140 hq1 rfl (c_addLast (14 + 2 * j) (20 + 2 * j) (100 + 10 * mc + i) (zRw s (2 * j) ++ nps mc i) hR3 hPr ⟨_, hp⟩ (by rw [List.length_append, nps_len]; omega)) mv_6_134 rfl (Nat.le_of_ble_eq_true rfl) (by first | exact ⟨Nat.le_of_ble_eq_true rfl, Nat.le_of_ble_eq_true rfl⟩ | exact ⟨by show k + 1 + 0 + 0 ≤ 13; omega, by show n + 5 + 0 + 0 ≤ 900; omega⟩) (by first | exact ⟨Nat.le_of_ble_eq_true rfl, Nat.le_of_ble_eq_true rfl⟩ | exact ⟨by show k + 1 + 0 + 0 ≤ 13; omega, by show n + 5 + 0 + 0 ≤ 900; omega⟩) (fun _ _ _ h => VT_no h) (fun v ad4 F7 hp1 => ?_)
              obtain ⟨rfl, rfl, hR4, hfa⟩ := hp1
              simp only [List.mem_cons, List.not_mem_nil, or_false, not_or] at hfa
              refine V_iinc C dX6_submit_143 rfl (nI_inc _) (by decide) ?_
              refine V_goto (tgt := 110) C dX6_submit_146 (by decide) ?_
              refine V_sb (ih (i + 1) (k + 1) (n + 5) ad3 F7 (by omega) (by omega) (by omega) (fun x hx => (had3 x (by omega)).trans (e1 x hx)) (fun x hx h1 h2 => (hfa x (by omega)).trans ((hF x (by omega)).trans (e2 x hx h1 h2))) ?_ (fun p hp2 => ?_) (fun p h1 h2 => (hfa _ (by omega)).trans ((hF _ (by omega)).trans (hZ p (by omega) h2)))) ⟨rfl, rfl, rfl, rfl, rfl, trivial⟩
              · rw [nps_suc, ← List.append_assoc]; exact hR4
              · by_cases e : p = i
                · subst e; exact (hfa _ (by omega)).trans hp
                · rw [had3 (30 + 3 * mc) (by omega)]
                  exact (hfa _ (by omega)).trans ((hF _ (by omega)).trans (hN p (by omega)))
          refine V_sb (loop _ 0 _ _ ad2 F4 (Nat.zero_add _) ?_ ?_ (fun x hx => rfl) (fun x hx h1 h2 => rfl) hq4 (fun p hp => absurd hp (Nat.not_lt_zero p)) (fun p hp h10 => (hf4 _ (by omega) (by omega)).trans ((hf _ (by omega) (by omega) (by omega)).trans (hfree _ (by omega))))) ⟨rfl, rfl, rfl, rfl, rfl, trivial⟩
          · show 6 + npL (zTxt s) ≤ 13; omega
          · show 827 + 5 * npL (zTxt s) ≤ 900; omega
        · rw [show spSub s (nI r) (nI life) = (2, 0, s) by unfold spSub; rw [if_neg hga, if_neg hgb, if_pos (Or.inr (Nat.le_of_not_lt (fun h => h4 (nI_lt h (by decide)))))]] at Q
          exact V_throwS C Q rfl (th_ISE 111 _ sw_111) dX6_submit_49 dX6_submit_52 dX6_submit_53 dX6_submit_55 dX6_submit_58 ⟨Nat.le_of_ble_eq_true rfl, Nat.le_of_ble_eq_true rfl⟩ (Nat.le_of_ble_eq_true rfl) (Nat.le_of_ble_eq_true rfl) ⟨⟨1, rfl, rfl⟩, hC, FrK.rf⟩
    · rw [show spSub s (nI r) b = (1, 0, s) by unfold spSub; rw [if_neg hga, if_pos (Or.inr (Int32.not_le.mp h2))]] at Q
      exact V_throwS C Q rfl (th_IAE 109 _ sw_109) dX6_submit_17 dX6_submit_20 dX6_submit_21 dX6_submit_23 dX6_submit_26 ⟨Nat.le_of_ble_eq_true rfl, Nat.le_of_ble_eq_true rfl⟩ (Nat.le_of_ble_eq_true rfl) (Nat.le_of_ble_eq_true rfl) ⟨⟨0, rfl, rfl⟩, hC, FrK.rf⟩
