/-! ===== THE CLASS'S TEXT ===== -/
def SgnAt (D : Dx) (F : Fn) (r : Nat) (L : List Nat) : Prop := L.length ≤ 400 ∧ (∀ x ∈ L, x < 1000) ∧ ∃ f : Nat → Int32, F r = some (aI D 400 f) ∧ ∀ j, j < L.length → f j = nI (L.getD j 0)
def b2i (b : Bool) : Int32 := if b = true then 1 else 0
def TxO (ad : Nat → Nat) (F : Fn) (t r s : Nat) (L : List Nat) (pc : Int32) : Prop := F t = some (oB 5 [.ref (ad r), .int (nI L.length), .int (nI (septL L)), .int (b2i (wideL L)), .ref (ad s), .int pc])
def StA (D : Dx) (F : Fn) (s : Nat) (L : List Nat) : Prop := ∃ g : Nat → Int32, F s = some (aI D 7 g) ∧ (L ≠ [] → ∀ k, k ≤ npL L → g k = nI (posL L k))
def TextAt (D : Dx) (ad : Nat → Nat) (F : Fn) (t r s : Nat) (L : List Nat) : Prop := TxO ad F t r s L (nI (npL L)) ∧ SgnAt D F r L ∧ StA D F s L
theorem getD_lt {L : List Nat} (h : ∀ x ∈ L, x < 1000) (j : Nat) : L.getD j 0 < 1000 := by
  rw [List.getD_eq_getElem?_getD]
  cases hj : L[j]? with
  | none => simp
  | some x => exact h x (List.mem_of_getElem? hj)
set_option maxHeartbeats 400000 in
set_option maxRecDepth 100000 in
/-- Text.septetsOf -/
theorem c_septetsOf {l : Launch} {D : Dx} {b0 : Nat} {ad : Nat → Nat} {F : Fn} (x : Nat) (hx : x < 1000) : Ct l D b0 yX5_septetsOf (wsA yX5_septetsOf cX5_septetsOf 1 (some .int)) r0 [.int (nI x)] ad F (pRd (some (.int (nI (w1 x)))) ad F) noX := by
  refine Ct.of (by decide +kernel) (by simp [Value.category]) (Nat.le_of_ble_eq_true rfl) (fun X eD eb el C Q => ?_)
  subst eD; subst eb; subst el
  refine V_iload_n C dX5_septetsOf_0 rfl ?_
  refine V_sipush (v := 128) C dX5_septetsOf_1 (by decide) ?_
  refine V_icmpge (tgt := 11) C dX5_septetsOf_4 (by decide) (fun hc => ?_) (fun hc => ?_)
  · rw [show w1 x = 2 from if_neg (fun h => nI_ge (a := x) (b := 128) h (by decide) hc)] at Q
    refine V_iconst (v := 2) C dX5_septetsOf_11 rfl ?_
    exact V_ireturn C Q dX5_septetsOf_12 rfl (Nat.le_of_ble_eq_true rfl) (Nat.le_of_ble_eq_true rfl) ⟨rfl, rfl, rfl⟩
  · rw [show w1 x = 1 from if_pos (Nat.lt_of_not_le fun h => hc (nI_le (a := 128) (b := x) h (by omega)))] at Q
    refine V_iconst (v := 1) C dX5_septetsOf_7 rfl ?_
    refine V_goto (tgt := 12) C dX5_septetsOf_8 (by decide) ?_
    exact V_ireturn C Q dX5_septetsOf_12 rfl (Nat.le_of_ble_eq_true rfl) (Nat.le_of_ble_eq_true rfl) ⟨rfl, rfl, rfl⟩
/-- the septet idx of the sign x -/
def sptO (x idx : Nat) : Nat := if x < 128 then x else if idx = 0 then 27 else x - 128
set_option maxHeartbeats 400000 in
set_option maxRecDepth 100000 in
/-- Text.septetOf -/
theorem c_septetOf {l : Launch} {D : Dx} {b0 : Nat} {ad : Nat → Nat} {F : Fn} (x i : Nat) (hx : x < 1000) (hi : i < 2 ^ 31) : Ct l D b0 yX5_septetOf (wsA yX5_septetOf cX5_septetOf 2 (some .int)) r0 [.int (nI x), .int (nI i)] ad F (pRd (some (.int (nI (sptO x i)))) ad F) noX := by
  refine Ct.of (by decide +kernel) (by simp [Value.category]) (Nat.le_of_ble_eq_true rfl) (fun X eD eb el C Q => ?_)
  subst eD; subst eb; subst el
  refine V_iload_n C dX5_septetOf_0 rfl ?_
  refine V_sipush (v := 128) C dX5_septetOf_1 (by decide) ?_
  refine V_icmpge (tgt := 9) C dX5_septetOf_4 (by decide) (fun hc => ?_) (fun hc => ?_)
  · have h128 : ¬ x < 128 := fun h => nI_ge (a := x) (b := 128) h (by decide) hc
    refine V_iload_n C dX5_septetOf_9 rfl ?_
    refine V_ifne (tgt := 18) C dX5_septetOf_10 (by decide) (fun hc2 => ?_) (fun hc2 => ?_)
    · rw [show sptO x i = x - 128 by unfold sptO; rw [if_neg h128, if_neg (fun e => hc2 (by rw [e]; rfl))]] at Q
      refine V_iload_n C dX5_septetOf_18 rfl ?_
      refine V_sipush (v := 128) C dX5_septetOf_19 (by decide) ?_
      refine V_isub C dX5_septetOf_22 ?_
      refine V_nm (pk_sub (a := x) (b := 128) (by omega)) ?_
      exact V_ireturn C Q dX5_septetOf_23 rfl (Nat.le_of_ble_eq_true rfl) (Nat.le_of_ble_eq_true rfl) ⟨rfl, rfl, rfl⟩
    · rw [show sptO x i = 27 by unfold sptO; rw [if_neg h128, if_pos ((nI_eq (b := 0) hi (by decide)).mp hc2)]] at Q
      refine V_bipush (v := 27) C dX5_septetOf_13 (by decide) ?_
      refine V_goto (tgt := 23) C dX5_septetOf_15 (by decide) ?_
      exact V_ireturn C Q dX5_septetOf_23 rfl (Nat.le_of_ble_eq_true rfl) (Nat.le_of_ble_eq_true rfl) ⟨rfl, rfl, rfl⟩
  · rw [show sptO x i = x from if_pos (Nat.lt_of_not_le fun h => hc (nI_le (a := 128) (b := x) h (by omega)))] at Q
    refine V_iload_n C dX5_septetOf_7 rfl ?_
    exact V_ireturn C Q dX5_septetOf_8 rfl (Nat.le_of_ble_eq_true rfl) (Nat.le_of_ble_eq_true rfl) ⟨rfl, rfl, rfl⟩
set_option maxHeartbeats 400000 in
set_option maxRecDepth 100000 in
/-- Text.signAt -/
theorem c_signAt {l : Launch} {D : Dx} {b0 : Nat} {ad : Nat → Nat} {F : Fn} (t r s : Nat) (L : List Nat) (pc : Int32) (j : Nat) (ht : TxO ad F t r s L pc) (hS : SgnAt D F r L) (hj : j < L.length) : Ct l D b0 yX5_signAt (wsA yX5_signAt cX5_signAt 2 (some .int)) r0 [.ref (ad t), .int (nI j)] ad F (pRd (some (.int (nI (L.getD j 0)))) ad F) noX := by
  refine Ct.of (by decide +kernel) (by simp [Value.category]) (Nat.le_of_ble_eq_true rfl) (fun X eD eb el C Q => ?_)
  subst eD; subst eb; subst el
  unfold TxO at ht
  obtain ⟨hl, hx, f, hr, hf⟩ := hS
  refine V_iload_n C dX5_signAt_0 rfl ?_
  refine V_iflt_f (tgt := 30) C dX5_signAt_1 (by decide) (nI_pos (by omega)) ?_
  refine V_iload_n C dX5_signAt_4 rfl ?_
  refine V_aload_n C dX5_signAt_5 rfl ?_
  refine V_get C dX5_signAt_6 fr_5_15 ht rfl ?_
  refine V_icmpge_f (tgt := 30) C dX5_signAt_9 (by decide) (nI_ge hj (by omega)) ?_
  refine V_iload_n C dX5_signAt_12 rfl ?_
  refine V_aload_n C dX5_signAt_13 rfl ?_
  refine V_get C dX5_signAt_14 fr_5_9 ht rfl ?_
  refine V_alen C dX5_signAt_17 hr rfl ?_
  refine V_icmpge_f (tgt := 30) C dX5_signAt_18 (by decide) (nI_ge (a := j) (b := 400) (by omega) (by decide)) ?_
  refine V_aload_n C dX5_signAt_21 rfl ?_
  refine V_get C dX5_signAt_22 fr_5_9 ht rfl ?_
  refine V_iload_n C dX5_signAt_25 rfl ?_
  refine V_iald C dX5_signAt_26 hr rfl (by omega) (by decide) ?_
  refine V_nm (hf j hj) ?_
  refine V_goto (tgt := 31) C dX5_signAt_27 (by decide) ?_
  exact V_ireturn C Q dX5_signAt_31 rfl (Nat.le_of_ble_eq_true rfl) (Nat.le_of_ble_eq_true rfl) ⟨rfl, rfl, rfl⟩
set_option maxHeartbeats 400000 in
set_option maxRecDepth 100000 in
/-- Text.roomOfAPart -/
theorem c_roomOf {l : Launch} {D : Dx} {b0 : Nat} {ad : Nat → Nat} {F : Fn} (t r s : Nat) (L : List Nat) (pc : Int32) (ht : TxO ad F t r s L pc) (hl : L.length ≤ 400) : Ct l D b0 yX5_roomOfAPart (wsA yX5_roomOfAPart cX5_roomOfAPart 1 (some .int)) r0 [.ref (ad t)] ad F (pRd (some (.int (nI (roomL L)))) ad F) noX := by
  refine Ct.of (by decide +kernel) (by simp [Value.category]) (Nat.le_of_ble_eq_true rfl) (fun X eD eb el C Q => ?_)
  subst eD; subst eb; subst el
  unfold TxO at ht
  have hs2 : septL L ≤ 800 := by have := sum_le_two (L.map w1) (fun s hs => by obtain ⟨x, -, rfl⟩ := List.mem_map.mp hs; rcases w1_12 x with h | h <;> rw [h] <;> decide); rw [List.length_map] at this; unfold septL; omega
  refine V_aload_n C dX5_roomOfAPart_0 rfl ?_
  refine V_get C dX5_roomOfAPart_1 fr_5_22 ht rfl ?_
  refine V_ifeq (tgt := 24) C dX5_roomOfAPart_4 (by decide) (fun hc => ?_) (fun hc => ?_)
  · have hw : ¬ wideL L = true := fun h => by rw [h] at hc; exact absurd hc (by decide)
    refine V_aload_n C dX5_roomOfAPart_24 rfl ?_
    refine V_get C dX5_roomOfAPart_25 fr_5_19 ht rfl ?_
    refine V_sipush (v := 160) C dX5_roomOfAPart_28 (by decide) ?_
    refine V_icmpgt (tgt := 40) C dX5_roomOfAPart_31 (by decide) (fun hc2 => ?_) (fun hc2 => ?_)
    · rw [show roomL L = 153 by unfold roomL; rw [if_neg hw, if_neg (fun h => nI_nlt (a := 160) h (by decide) hc2)]] at Q
      refine V_sipush (v := 153) C dX5_roomOfAPart_40 (by decide) ?_
      exact V_ireturn C Q dX5_roomOfAPart_43 rfl (Nat.le_of_ble_eq_true rfl) (Nat.le_of_ble_eq_true rfl) ⟨rfl, rfl, rfl⟩
    · rw [show roomL L = 160 by unfold roomL; rw [if_neg hw, if_pos (Nat.le_of_not_lt fun h => hc2 (nI_lt (a := 160) h (by omega)))]] at Q
      refine V_sipush (v := 160) C dX5_roomOfAPart_34 (by decide) ?_
      refine V_goto (tgt := 43) C dX5_roomOfAPart_37 (by decide) ?_
      exact V_ireturn C Q dX5_roomOfAPart_43 rfl (Nat.le_of_ble_eq_true rfl) (Nat.le_of_ble_eq_true rfl) ⟨rfl, rfl, rfl⟩
  · have hw : wideL L = true := by cases h : wideL L with | true => rfl | false => (rw [h] at hc; exact absurd rfl hc)
    refine V_aload_n C dX5_roomOfAPart_7 rfl ?_
    refine V_get C dX5_roomOfAPart_8 fr_5_15 ht rfl ?_
    refine V_bipush (v := 70) C dX5_roomOfAPart_11 (by decide) ?_
    refine V_icmpgt (tgt := 21) C dX5_roomOfAPart_13 (by decide) (fun hc2 => ?_) (fun hc2 => ?_)
    · rw [show roomL L = 67 by unfold roomL; rw [if_pos hw, if_neg (fun h => nI_nlt (a := 70) h (by decide) hc2)]] at Q
      refine V_bipush (v := 67) C dX5_roomOfAPart_21 (by decide) ?_
      exact V_ireturn C Q dX5_roomOfAPart_23 rfl (Nat.le_of_ble_eq_true rfl) (Nat.le_of_ble_eq_true rfl) ⟨rfl, rfl, rfl⟩
    · rw [show roomL L = 70 by unfold roomL; rw [if_pos hw, if_pos (Nat.le_of_not_lt fun h => hc2 (nI_lt (a := 70) h (by omega)))]] at Q
      refine V_bipush (v := 70) C dX5_roomOfAPart_16 (by decide) ?_
      refine V_goto (tgt := 23) C dX5_roomOfAPart_18 (by decide) ?_
      exact V_ireturn C Q dX5_roomOfAPart_23 rfl (Nat.le_of_ble_eq_true rfl) (Nat.le_of_ble_eq_true rfl) ⟨rfl, rfl, rfl⟩
theorem szL_at {L : List Nat} {i : Nat} (h : i < L.length) : (szL L)[i]'(by rw [szL_len]; exact h) = if wideL L then 1 else w1 (L.getD i 0) := by
  have e : L.getD i 0 = L[i] := by rw [List.getD_eq_getElem?_getD, List.getElem?_eq_getElem h]; rfl
  simp only [szL, List.getElem_map, e]
/-- the sizes between two places -/
def btw (L : List Nat) (a b : Nat) : Nat := (((szL L).drop a).take (b - a)).sum
theorem btw_0 (L : List Nat) (a : Nat) : btw L a a = 0 := by simp [btw]
theorem btw_s {L : List Nat} {a i : Nat} (h : i < L.length) (ha : a ≤ i) : btw L a (i + 1) = btw L a i + (if wideL L then 1 else w1 (L.getD i 0)) := by
  unfold btw
  rw [show i + 1 - a = (i - a) + 1 by omega, List.take_add_one, List.getElem?_drop, show a + (i - a) = i by omega, List.getElem?_eq_getElem (by rw [szL_len]; exact h), List.sum_append, szL_at h]
  simp
theorem btw_le {L : List Nat} {p i : Nat} (h : i ≤ L.length) (ha : posL L p ≤ i) : btw L (posL L p) i ≤ roomL L ↔ i ≤ posL L (p + 1) := by
  have h1 := takeN_iff ((szL L).drop (posL L p)) (roomL L) (i - posL L p) (by rw [List.length_drop, szL_len]; omega)
  have h2 : posL L (p + 1) = posL L p + takeN (roomL L) ((szL L).drop (posL L p)) := rfl
  unfold btw
  rw [h1, h2]
  omega
theorem btw_lt (L : List Nat) (a b : Nat) (h : L.length ≤ 400) : btw L a b ≤ 800 := by
  have h1 := sum_take_le ((szL L).drop a) (b - a)
  have h2 := sum_le_two ((szL L).drop a) (fun s hs => szL_12 s (List.mem_of_mem_drop hs))
  rw [List.length_drop, szL_len] at h2
  unfold btw
  omega
set_option maxHeartbeats 400000 in
set_option maxRecDepth 100000 in
/-- Text.cut -/
theorem c_cut {l : Launch} {D : Dx} {b0 : Nat} {ad : Nat → Nat} {F : Fn} (t r s : Nat) (L : List Nat) (pc : Int32) (g0 : Nat → Int32) (ht : TxO ad F t r s L pc) (hS : SgnAt D F r L) (hs : F s = some (aI D 7 g0)) (hne : L ≠ []) (hrs : r ≠ s) : Ct l D b0 yX5_cut (wsA yX5_cut cX5_cut 5 none) (rK 1) [.ref (ad t)] ad F (fun v ad1 F1 => v = none ∧ ad = ad1 ∧ TextAt D ad F1 t r s L ∧ ∀ x, x ∉ [t, s] → F1 x = F x) noX := by
  refine Ct.of (by decide +kernel) (by simp [Value.category]) (Nat.le_of_ble_eq_true rfl) (fun X eD eb el C Q => ?_)
  subst eD; subst eb; subst el
  have hl := hS.1
  have hlp : 0 < L.length := by cases L with | nil => exact absurd rfl hne | cons a b => simp
  obtain ⟨-, hxs, f0, hr0, -⟩ := id hS
  have hts : t ≠ s := obj_ne hs ht
  have htr : t ≠ r := obj_ne hr0 ht
  refine V_aload_n C dX5_cut_0 rfl ?_
  refine V_invV C dX5_cut_1 ht rfl (c_roomOf t r s L pc ht hl) mv_5_58 rfl (Nat.le_of_ble_eq_true rfl) ⟨Nat.le_of_ble_eq_true rfl, Nat.le_of_ble_eq_true rfl⟩ ⟨Nat.le_of_ble_eq_true rfl, Nat.le_of_ble_eq_true rfl⟩ (fun _ _ _ h => VT_no h) (fun v ad1 F1 hp => ?_)
  obtain ⟨rfl, rfl, rfl⟩ := hp
  unfold TxO at ht
  refine V_istore_n C dX5_cut_4 (by decide) ?_
  refine V_iconst (v := 0) C dX5_cut_5 rfl ?_
  refine V_istore_n C dX5_cut_6 (by decide) ?_
  refine V_aload_n C dX5_cut_7 rfl ?_
  refine V_iconst (v := 1) C dX5_cut_8 rfl ?_
  refine G_put C dX5_cut_9 fp_5_29 ht rfl rfl (Nat.le_of_ble_eq_true rfl) (fun F1 ht hfr => ?_)
  dsimp only [List.set] at ht
  have hs := (hfr _ hts.symm).trans hs
  have hfr1 := hfr
  refine V_aload_n C dX5_cut_12 rfl ?_
  refine V_get C dX5_cut_13 fr_5_26 ht rfl ?_
  refine V_iconst (v := 0) C dX5_cut_16 rfl ?_
  refine V_iconst (v := 0) C dX5_cut_17 rfl ?_
  refine G_iast C dX5_cut_18 hs (show _ = nI 0 from rfl) (by decide) (by decide) (fun F2 hs hfr => ?_)
  have ht := (hfr _ hts).trans ht
  refine V_iconst (v := 0) C dX5_cut_19 rfl ?_
  refine V_istore_n C dX5_cut_20 (by decide) ?_
  have hK : ∀ x, x ∉ [t, s] → F2 x = F x := fun x hx => (hfr x (fun e => hx (by simp [e]))).trans (hfr1 x (fun e => hx (by simp [e])))
  have loop : ∀ (d i p : Nat) (G : Fn) (g : Nat → Int32), i + d = L.length → p ≤ 5 → posL L p ≤ i → i ≤ posL L (p + 1) → (p = 0 ∨ posL L p < i) → TxO ad G t r s L (nI (p + 1)) → G s = some (aI (xD X) 7 g) → (∀ k, k ≤ p → g k = nI (posL L k)) → (∀ x, x ∉ [t, s] → G x = F x) → ∀ z : Value,
      V X 0 0 21 [(0, .ref (ad t)), (1, .int (nI (roomL L))), (2, .int (nI (btw L (posL L p) i))), (3, .int (nI i))] [] ad G := by
    intro d
    induction d with
    | zero =>
      intro i p G g hd hp5 h1 h2 h3 ht hs hg hK z
      have hi : i = L.length := by omega
      subst hi
      unfold TxO at ht
      have hq : posL L (p + 1) = L.length := Nat.le_antisymm (posL_le L _) h2
      have hnp : npL L = p + 1 := npL_eq (fun k hk => by
        have := posL_mono L (show k ≤ p by omega)
        rcases h3 with h3 | h3
        · subst h3; have : posL L 0 = 0 := rfl; omega
        · omega) hq (by omega)
      refine V_iload_n C dX5_cut_21 rfl ?_
      refine V_aload_n C dX5_cut_22 rfl ?_
      refine V_get C dX5_cut_23 fr_5_15 ht rfl ?_
      refine V_icmpge_t (tgt := 100) C dX5_cut_26 (by decide) (Int32.le_refl _) ?_
      refine V_aload_n C dX5_cut_100 rfl ?_
      refine V_get C dX5_cut_101 fr_5_26 ht rfl ?_
      refine V_aload_n C dX5_cut_104 rfl ?_
      refine V_get C dX5_cut_105 fr_5_29 ht rfl ?_
      refine V_aload_n C dX5_cut_108 rfl ?_
      refine V_get C dX5_cut_109 fr_5_15 ht rfl ?_
      refine G_iast C dX5_cut_112 hs rfl (by omega) (by decide) (fun G1 hs hfr => ?_)
      have ht := (hfr _ hts).trans ht
      have hK := fr_step hK hfr (by simp)
      refine V_return C Q dX5_cut_113 (Nat.le_of_ble_eq_true rfl) (Nat.le_of_ble_eq_true rfl) ⟨rfl, rfl, ⟨by rw [hnp]; exact ht, ⟨hl, hxs, f0, (hK r (by simp [Ne.symm htr, hrs])).trans hr0, ?_⟩, ⟨_, hs, fun _ k hk => ?_⟩⟩, hK⟩
      · obtain ⟨-, -, f9, hr9, hf9⟩ := hS
        rw [hr0] at hr9
        cases hr9
        exact hf9
      · rw [hnp] at hk
        by_cases e : k = p + 1
        · subst e; simp only [upd, if_pos]; rw [hq]
        · simp only [upd, if_neg e]; exact hg k (by omega)
    | succ d ih =>
      intro i p G g hd hp5 h1 h2 h3 ht hs hg hK z
      have hi : i < L.length := by omega
      have hSG : SgnAt (xD X) G r L := by
        obtain ⟨a1, a2, f9, a3, a4⟩ := hS
        exact ⟨a1, a2, f9, (hK r (by simp [Ne.symm htr, hrs])).trans a3, a4⟩
      have hb1 := btw_s hi h1
      have hx9 := getD_lt hxs i
      have hsz : (if wideL L then 1 else w1 (L.getD i 0)) ≤ 2 := by
        split
        · decide
        · rcases w1_12 (L.getD i 0) with h | h <;> rw [h] <;> decide
      obtain ⟨sz, hsz0⟩ : ∃ sz, sz = if wideL L then 1 else w1 (L.getD i 0) := ⟨_, rfl⟩
      rw [← hsz0] at hb1 hsz
      have hbl := btw_lt L (posL L p) i hl
      have hroom := roomL_ge L
      have tail : V X 0 0 48 [(0, .ref (ad t)), (1, .int (nI (roomL L))), (2, .int (nI (btw L (posL L p) i))), (3, .int (nI i))] [.int (nI sz)] ad G := by
        have ht := ht
        unfold TxO at ht
        refine V_istore C dX5_cut_48 (by decide) ?_
        refine V_iload_n C dX5_cut_50 rfl ?_
        refine V_iload C dX5_cut_51 rfl ?_
        refine V_iadd C dX5_cut_53 ?_
        refine V_nm (nI_add _ _) ?_
        refine V_iload_n C dX5_cut_54 rfl ?_
        refine V_icmple (tgt := 89) C dX5_cut_55 (by decide) (fun hc => ?_) (fun hc => ?_)
        · have hle : btw L (posL L p) (i + 1) ≤ roomL L := by rw [hb1]; exact (nI_leI (by omega) (by omega)).mp hc
          refine V_iload_n C dX5_cut_89 rfl ?_
          refine V_iload C dX5_cut_90 rfl ?_
          refine V_iadd C dX5_cut_92 ?_
          refine V_nm (nI_add _ _) ?_
          refine V_istore_n C dX5_cut_93 (by decide) ?_
          refine V_iinc C dX5_cut_94 rfl (nI_inc _) (by decide) ?_
          refine V_goto (tgt := 21) C dX5_cut_97 (by decide) ?_
          refine V_sb (ih (i + 1) p G g (by omega) hp5 (by omega) ((btw_le (by omega) (by omega)).mp hle) (Or.inr (by omega)) ht hs hg hK z) ⟨rfl, rfl, by rw [hb1]; rfl, rfl, trivial⟩
        · have hle : ¬ btw L (posL L p) (i + 1) ≤ roomL L := fun h => hc (by rw [hb1] at h; exact nI_le h (by omega))
          have hip : i = posL L (p + 1) := by
            rcases Nat.lt_or_ge i (posL L (p + 1)) with h | h
            · exact absurd ((btw_le (by omega) (by omega)).mpr h) hle
            · omega
          have hp4 : p < 5 := by
            rcases Nat.lt_or_ge p 5 with h | h
            · exact h
            · have e5 : p = 5 := by omega
              subst e5
              have h6 : posL L (5 + 1) = L.length := posL_6 hl
              omega
          have hlt2 := posL_lt (L := L) (k := p + 1) (by omega)
          refine V_aload_n C dX5_cut_58 rfl ?_
          refine V_get C dX5_cut_59 fr_5_29 ht rfl ?_
          refine V_bipush (v := 6) C dX5_cut_62 (by decide) ?_
          refine V_icmpge_f (tgt := 89) C dX5_cut_64 (by decide) (nI_ge (a := p + 1) (b := 6) (by omega) (by decide)) ?_
          refine V_aload_n C dX5_cut_67 rfl ?_
          refine V_get C dX5_cut_68 fr_5_26 ht rfl ?_
          refine V_aload_n C dX5_cut_71 rfl ?_
          refine V_get C dX5_cut_72 fr_5_29 ht rfl ?_
          refine V_iload_n C dX5_cut_75 rfl ?_
          refine G_iast C dX5_cut_76 hs rfl (by omega) (by decide) (fun G1 hs hfr => ?_)
          have ht := (hfr _ hts).trans ht
          have hK := fr_step hK hfr (by simp)
          refine V_aload_n C dX5_cut_77 rfl ?_
          refine V_dup C dX5_cut_78 rfl ?_
          refine V_get C dX5_cut_79 fr_5_29 ht rfl ?_
          refine V_iconst (v := 1) C dX5_cut_82 rfl ?_
          refine V_iadd C dX5_cut_83 ?_
          refine V_nm (nI_1 (p + 1)) ?_
          refine G_put C dX5_cut_84 fp_5_29 ht rfl rfl (Nat.le_of_ble_eq_true rfl) (fun G2 ht hfr => ?_)
          dsimp only [List.set] at ht
          have hs := (hfr _ hts.symm).trans hs
          have hK := fr_step hK hfr (by simp)
          refine V_iconst (v := 0) C dX5_cut_87 rfl ?_
          refine V_istore_n C dX5_cut_88 (by decide) ?_
          refine V_iload_n C dX5_cut_89 rfl ?_
          refine V_iload C dX5_cut_90 rfl ?_
          refine V_iadd C dX5_cut_92 ?_
          refine V_nm (show (0 : Int32) + nI sz = nI (0 + sz) from nI_add 0 sz) ?_
          refine V_istore_n C dX5_cut_93 (by decide) ?_
          refine V_iinc C dX5_cut_94 rfl (nI_inc _) (by decide) ?_
          refine V_goto (tgt := 21) C dX5_cut_97 (by decide) ?_
          refine V_sb (ih (i + 1) (p + 1) G2 _ (by omega) (by omega) (by omega) (by omega) (Or.inr (by omega)) ht hs (fun k hk => ?_) hK z) ⟨rfl, rfl, ?_, rfl, trivial⟩
          · by_cases e : k = p + 1
            · subst e; simp only [upd, if_pos]; rw [hip]
            · simp only [upd, if_neg e]; exact hg k (by omega)
          · rw [← hip, btw_s hi (Nat.le_refl i), btw_0, ← hsz0]; rfl
      have ht0 := ht
      unfold TxO at ht
      refine V_iload_n C dX5_cut_21 rfl ?_
      refine V_aload_n C dX5_cut_22 rfl ?_
      refine V_get C dX5_cut_23 fr_5_15 ht rfl ?_
      refine V_icmpge_f (tgt := 100) C dX5_cut_26 (by decide) (nI_ge hi (by omega)) ?_
      refine V_aload_n C dX5_cut_29 rfl ?_
      refine V_get C dX5_cut_30 fr_5_22 ht rfl ?_
      refine V_ifeq (tgt := 40) C dX5_cut_33 (by decide) (fun hc => ?_) (fun hc => ?_)
      · have hw : ¬ wideL L = true := fun h => by rw [h] at hc; exact absurd hc (by decide)
        refine V_aload_n C dX5_cut_40 rfl ?_
        refine V_iload_n C dX5_cut_41 rfl ?_
        refine V_invV C dX5_cut_42 ht rfl (c_signAt t r s L (nI (p + 1)) i ht0 hSG hi) mv_5_45 rfl (Nat.le_of_ble_eq_true rfl) ⟨Nat.le_of_ble_eq_true rfl, Nat.le_of_ble_eq_true rfl⟩ ⟨Nat.le_of_ble_eq_true rfl, Nat.le_of_ble_eq_true rfl⟩ (fun _ _ _ h => VT_no h) (fun v ad1 F1 hp => ?_)
        obtain ⟨rfl, rfl, rfl⟩ := hp
        refine V_invS C dX5_cut_45 (c_septetsOf (L.getD i 0) hx9) ms_5_32 rfl (Nat.le_of_ble_eq_true rfl) ⟨Nat.le_of_ble_eq_true rfl, Nat.le_of_ble_eq_true rfl⟩ ⟨Nat.le_of_ble_eq_true rfl, Nat.le_of_ble_eq_true rfl⟩ (fun _ _ _ h => VT_no h) (fun v ad1 F1 hp => ?_)
        obtain ⟨rfl, rfl, rfl⟩ := hp
        refine V_nm (w := nI sz) (by rw [hsz0, if_neg hw]) ?_
        exact V_sb tail ⟨rfl, rfl, rfl, rfl, trivial⟩
      · have hw : wideL L = true := by cases h : wideL L with | true => rfl | false => (rw [h] at hc; exact absurd rfl hc)
        refine V_iconst (v := 1) C dX5_cut_36 rfl ?_
        refine V_goto (tgt := 48) C dX5_cut_37 (by decide) ?_
        refine V_nm (w := nI sz) (by rw [hsz0, if_pos hw]; rfl) ?_
        exact V_sb tail ⟨rfl, rfl, rfl, rfl, trivial⟩
  refine V_sb (loop L.length 0 0 F2 _ (by omega) (by decide) (Nat.zero_le _) (Nat.zero_le _) (Or.inl rfl) ht hs (fun k hk => ?_) hK .null) ⟨rfl, rfl, ?_, rfl, trivial⟩
  · rw [Nat.le_zero.mp hk]; rfl
  · rw [show posL L 0 = 0 from rfl, btw_0]; rfl
theorem septL_app (L : List Nat) (x n : Nat) : septL (L ++ List.replicate n x) = septL L + n * w1 x := by
  simp [septL, List.map_append, List.sum_append]
theorem wideL_app (L : List Nat) (x n : Nat) (h : 0 < n) : wideL (L ++ List.replicate n x) = (wideL L || decide (160 ≤ x)) := by
  cases n with
  | zero => omega
  | succ n =>
    simp only [wideL, List.any_append]
    congr 1
    induction n with
    | zero => simp
    | succ n ih => rw [List.replicate_succ, List.any_cons, ih (by omega), Bool.or_self]
theorem septL_le {L : List Nat} : septL L ≤ 2 * L.length := by
  have := sum_le_two (L.map w1) (fun s hs => by obtain ⟨x, -, rfl⟩ := List.mem_map.mp hs; rcases w1_12 x with h | h <;> rw [h] <;> decide)
  rw [List.length_map] at this
  exact this
set_option maxHeartbeats 400000 in
set_option maxRecDepth 100000 in
/-- Text.append -/
theorem c_append {l : Launch} {D : Dx} {b0 : Nat} {ad : Nat → Nat} {F : Fn} (t r s : Nat) (L : List Nat) (x m : Nat) (hT : TextAt D ad F t r s L) (hx : x < 1000) (hm : 0 < m) (hm2 : L.length + m ≤ 400) (hrs : r ≠ s) : Ct l D b0 yX5_append (wsA yX5_append cX5_append 4 none) (rK 2) [.ref (ad t), .int (nI x), .int (nI m)] ad F (fun v ad1 F1 => v = none ∧ ad = ad1 ∧ TextAt D ad F1 t r s (L ++ List.replicate m x) ∧ ∀ z, z ∉ [t, r, s] → F1 z = F z) noX := by
  refine Ct.of (by decide +kernel) (by simp [Value.category]) (Nat.le_of_ble_eq_true rfl) (fun X eD eb el C Q => ?_)
  subst eD; subst eb; subst el
  obtain ⟨ht, ⟨hl, hxs, f0, hr, hf0⟩, g0, hs, -⟩ := hT
  unfold TxO at ht
  have hts : t ≠ s := obj_ne hs ht
  have htr : t ≠ r := obj_ne hr ht
  refine V_iconst (v := 0) C dX5_append_0 rfl ?_
  refine V_istore_n C dX5_append_1 (by decide) ?_
  have loop : ∀ (d i : Nat) (G : Fn) (f : Nat → Int32), i + d = m → G t = some (oB 5 [.ref (ad r), .int (nI (L.length + i)), .int (nI (septL L + i * w1 x)), .int (b2i (wideL L)), .ref (ad s), .int (nI (npL L))]) → G r = some (aI (xD X) 400 f) → (∀ j, j < L.length + i → f j = nI ((L ++ List.replicate i x).getD j 0)) → (∀ z, z ∉ [t, r, s] → G z = F z) → G s = F s →
      V X 0 0 2 [(0, .ref (ad t)), (1, .int (nI x)), (2, .int (nI m)), (3, .int (nI i))] [] ad G := by
    intro d
    induction d with
    | zero =>
      intro i G f hd ht hr hf hK hsG
      have hi : i = m := by omega
      subst hi
      have hsG := hsG.trans hs
      refine V_iload_n C dX5_append_2 rfl ?_
      refine V_iload_n C dX5_append_3 rfl ?_
      refine V_icmpge_t (tgt := 58) C dX5_append_4 (by decide) (Int32.le_refl _) ?_
      refine V_aload_n C dX5_append_58 rfl ?_
      refine V_aload_n C dX5_append_59 rfl ?_
      refine V_get C dX5_append_60 fr_5_22 ht rfl ?_
      have hlen : (L ++ List.replicate i x).length = L.length + i := by simp
      have hne : L ++ List.replicate i x ≠ [] := fun e => by rw [e] at hlen; simp at hlen; omega
      have fin : V X 0 0 78 [(0, .ref (ad t)), (1, .int (nI x))] [.int (b2i (wideL (L ++ List.replicate i x))), .ref (ad t)] ad G := by
        refine G_put C dX5_append_78 fp_5_22 ht (by unfold b2i; split <;> rfl) (by unfold b2i; split <;> rfl) (Nat.le_of_ble_eq_true rfl) (fun G1 ht hfr => ?_)
        dsimp only [List.set] at ht
        have hr := (hfr _ htr.symm).trans hr
        have hsG := (hfr _ hts.symm).trans hsG
        rw [← septL_app, ← hlen] at ht
        refine V_aload_n C dX5_append_81 rfl ?_
        refine V_invV C dX5_append_82 ht rfl (c_cut t r s (L ++ List.replicate i x) _ g0 ht ⟨by rw [hlen]; exact hm2, fun y hy => ?_, f, hr, fun j hj => hf j (by rw [← hlen]; exact hj)⟩ hsG hne hrs) mv_5_36 rfl (Nat.le_of_ble_eq_true rfl) ⟨Nat.le_of_ble_eq_true rfl, Nat.le_of_ble_eq_true rfl⟩ ⟨Nat.le_of_ble_eq_true rfl, Nat.le_of_ble_eq_true rfl⟩ (fun _ _ _ h => VT_no h) ?_
        · rcases List.mem_append.mp hy with h | h
          · exact hxs y h
          · rw [List.eq_of_mem_replicate h]; exact hx
        intro v ad1 G2 hp
        obtain ⟨rfl, rfl, h1, h2⟩ := hp
        exact V_return C Q dX5_append_85 (Nat.le_of_ble_eq_true rfl) (Nat.le_of_ble_eq_true rfl) ⟨rfl, rfl, h1, fun z hz => (h2 z (fun h => hz (by simp at h ⊢; rcases h with h | h <;> simp [h]))).trans ((hfr z (fun e => hz (by simp [e]))).trans (hK z hz))⟩
      have hwd := wideL_app L x i hm
      refine V_ifne (tgt := 73) C dX5_append_63 (by decide) (fun hc => ?_) (fun hc => ?_)
      · refine V_iconst (v := 1) C dX5_append_73 rfl ?_
        refine V_goto (tgt := 78) C dX5_append_74 (by decide) ?_
        have hwL : wideL L = true := by cases h : wideL L with | true => rfl | false => (rw [h] at hc; exact absurd rfl hc)
        refine V_nm (w := b2i (wideL (L ++ List.replicate i x))) (by rw [hwd, hwL]; rfl) ?_
        exact V_sb fin ⟨rfl, rfl, trivial⟩
      · have hwL : wideL L = false := by cases h : wideL L with | false => rfl | true => (rw [h] at hc; exact absurd hc (by decide))
        refine V_iload_n C dX5_append_66 rfl ?_
        refine V_sipush (v := 160) C dX5_append_67 (by decide) ?_
        refine V_icmplt (tgt := 77) C dX5_append_70 (by decide) (fun hc2 => ?_) (fun hc2 => ?_)
        · have h160 : ¬ 160 ≤ x := fun h => nI_nlt (a := x) (b := 160) h (by omega) hc2
          refine V_iconst (v := 0) C dX5_append_77 rfl ?_
          refine V_nm (w := b2i (wideL (L ++ List.replicate i x))) (by rw [hwd, hwL, decide_eq_false h160]; rfl) ?_
          exact V_sb fin ⟨rfl, rfl, trivial⟩
        · have h160 : 160 ≤ x := Nat.le_of_not_lt fun h => hc2 (nI_lt (a := x) (b := 160) h (by decide))
          refine V_iconst (v := 1) C dX5_append_73 rfl ?_
          refine V_goto (tgt := 78) C dX5_append_74 (by decide) ?_
          refine V_nm (w := b2i (wideL (L ++ List.replicate i x))) (by rw [hwd, hwL, decide_eq_true h160]; rfl) ?_
          exact V_sb fin ⟨rfl, rfl, trivial⟩
    | succ d ih =>
      intro i G f hd ht hr hf hK hsG
      have hsl := septL_le (L := L)
      have hw2 : w1 x ≤ 2 := by rcases w1_12 x with h | h <;> rw [h] <;> decide
      have hiw : i * w1 x ≤ i * 2 := Nat.mul_le_mul_left i hw2
      refine V_iload_n C dX5_append_2 rfl ?_
      refine V_iload_n C dX5_append_3 rfl ?_
      refine V_icmpge_f (tgt := 58) C dX5_append_4 (by decide) (nI_ge (by omega) (by omega)) ?_
      refine V_aload_n C dX5_append_7 rfl ?_
      refine V_get C dX5_append_8 fr_5_15 ht rfl ?_
      refine V_aload_n C dX5_append_11 rfl ?_
      refine V_get C dX5_append_12 fr_5_9 ht rfl ?_
      refine V_alen C dX5_append_15 hr rfl ?_
      refine V_icmpge_f (tgt := 58) C dX5_append_16 (by decide) (nI_ge (a := L.length + i) (b := 400) (by omega) (by decide)) ?_
      refine V_aload_n C dX5_append_19 rfl ?_
      refine V_get C dX5_append_20 fr_5_9 ht rfl ?_
      refine V_aload_n C dX5_append_23 rfl ?_
      refine V_get C dX5_append_24 fr_5_15 ht rfl ?_
      refine V_iload_n C dX5_append_27 rfl ?_
      refine G_iast C dX5_append_28 hr rfl (by omega) (by decide) (fun G1 hr hfr => ?_)
      have ht := (hfr _ htr).trans ht
      have hfr1 := hfr
      refine V_aload_n C dX5_append_29 rfl ?_
      refine V_dup C dX5_append_30 rfl ?_
      refine V_get C dX5_append_31 fr_5_15 ht rfl ?_
      refine V_iconst (v := 1) C dX5_append_34 rfl ?_
      refine V_iadd C dX5_append_35 ?_
      refine V_nm (nI_1 _) ?_
      refine G_put C dX5_append_36 fp_5_15 ht rfl rfl (Nat.le_of_ble_eq_true rfl) (fun G2 ht hfr => ?_)
      dsimp only [List.set] at ht
      have hr := (hfr _ htr.symm).trans hr
      have hfr2 := hfr
      refine V_aload_n C dX5_append_39 rfl ?_
      refine V_dup C dX5_append_40 rfl ?_
      refine V_get C dX5_append_41 fr_5_19 ht rfl ?_
      refine V_iload_n C dX5_append_44 rfl ?_
      refine V_invS C dX5_append_45 (c_septetsOf x hx) ms_5_32 rfl (Nat.le_of_ble_eq_true rfl) ⟨Nat.le_of_ble_eq_true rfl, Nat.le_of_ble_eq_true rfl⟩ ⟨Nat.le_of_ble_eq_true rfl, Nat.le_of_ble_eq_true rfl⟩ (fun _ _ _ h => VT_no h) (fun v ad1 F1 hp => ?_)
      obtain ⟨rfl, rfl, rfl⟩ := hp
      refine V_iadd C dX5_append_48 ?_
      refine V_nm (nI_add _ _) ?_
      refine G_put C dX5_append_49 fp_5_19 ht rfl rfl (Nat.le_of_ble_eq_true rfl) (fun G3 ht hfr => ?_)
      dsimp only [List.set] at ht
      have hr := (hfr _ htr.symm).trans hr
      refine V_iinc C dX5_append_52 rfl (nI_inc _) (by decide) ?_
      refine V_goto (tgt := 2) C dX5_append_55 (by decide) ?_
      refine V_sb (ih (i + 1) G3 _ (by omega) (by rw [show septL L + (i + 1) * w1 x = septL L + i * w1 x + w1 x by rw [Nat.succ_mul]; omega]; exact ht) hr (fun j hj => ?_) (fun z hz => ?_) ?_) ⟨rfl, rfl, rfl, rfl, trivial⟩
      · by_cases e : j = L.length + i
        · subst e
          simp only [upd, if_pos]
          rw [List.getD_eq_getElem?_getD, List.getElem?_append_right (by omega), List.getElem?_replicate, if_pos (by omega)]
          rfl
        · simp only [upd, if_neg e]
          have h9 : (L ++ List.replicate i x ++ [x])[j]? = (L ++ List.replicate i x)[j]? := List.getElem?_append_left (by rw [List.length_append, List.length_replicate]; omega)
          rw [hf j (by omega), List.replicate_succ', ← List.append_assoc, List.getD_eq_getElem?_getD, List.getD_eq_getElem?_getD, h9]
      · exact (hfr z (fun e => hz (by simp [e]))).trans ((hfr2 z (fun e => hz (by simp [e]))).trans ((hfr1 z (fun e => hz (by simp [e]))).trans (hK z hz)))
      · exact (hfr s hts.symm).trans ((hfr2 s hts.symm).trans ((hfr1 s hrs.symm).trans hsG))
  refine V_sb (loop m 0 F f0 (by omega) (by simpa using ht) hr (fun j hj => by simpa using hf0 j hj) (fun _ _ => rfl) rfl) ⟨rfl, rfl, rfl, rfl, trivial⟩
set_option maxHeartbeats 400000 in
set_option maxRecDepth 100000 in
/-- Text.clear -/
theorem c_clear {l : Launch} {D : Dx} {b0 : Nat} {ad : Nat → Nat} {F : Fn} (t r s : Nat) (L : List Nat) (hT : TextAt D ad F t r s L) (hrs : r ≠ s) : Ct l D b0 yX5_clear (wsA yX5_clear cX5_clear 1 none) r0 [.ref (ad t)] ad F (fun v ad1 F1 => v = none ∧ ad = ad1 ∧ TextAt D ad F1 t r s [] ∧ ∀ z, z ≠ t → F1 z = F z) noX := by
  refine Ct.of (by decide +kernel) (by simp [Value.category]) (Nat.le_of_ble_eq_true rfl) (fun X eD eb el C Q => ?_)
  subst eD; subst eb; subst el
  obtain ⟨ht, ⟨hl, hxs, f0, hr, hf0⟩, g0, hs, -⟩ := hT
  unfold TxO at ht
  have hts : t ≠ s := obj_ne hs ht
  have htr : t ≠ r := obj_ne hr ht
  have hK : ∀ z, z ≠ t → F z = F z := fun _ _ => rfl
  refine V_aload_n C dX5_clear_0 rfl ?_
  refine V_iconst (v := 0) C dX5_clear_1 rfl ?_
  refine G_put C dX5_clear_2 fp_5_15 ht rfl rfl (Nat.le_of_ble_eq_true rfl) (fun G0 ht hfr => ?_)
  dsimp only [List.set] at ht
  have hK := fun x h => (hfr x h).trans (hK x h)
  refine V_aload_n C dX5_clear_5 rfl ?_
  refine V_iconst (v := 0) C dX5_clear_6 rfl ?_
  refine G_put C dX5_clear_7 fp_5_19 ht rfl rfl (Nat.le_of_ble_eq_true rfl) (fun G1 ht hfr => ?_)
  dsimp only [List.set] at ht
  have hK := fun x h => (hfr x h).trans (hK x h)
  refine V_aload_n C dX5_clear_10 rfl ?_
  refine V_iconst (v := 0) C dX5_clear_11 rfl ?_
  refine G_put C dX5_clear_12 fp_5_22 ht rfl rfl (Nat.le_of_ble_eq_true rfl) (fun G2 ht hfr => ?_)
  dsimp only [List.set] at ht
  have hK := fun x h => (hfr x h).trans (hK x h)
  refine V_aload_n C dX5_clear_15 rfl ?_
  refine V_iconst (v := 0) C dX5_clear_16 rfl ?_
  refine G_put C dX5_clear_17 fp_5_29 ht rfl rfl (Nat.le_of_ble_eq_true rfl) (fun G3 ht hfr => ?_)
  dsimp only [List.set] at ht
  have hK := fun x h => (hfr x h).trans (hK x h)
  exact V_return C Q dX5_clear_20 (Nat.le_of_ble_eq_true rfl) (Nat.le_of_ble_eq_true rfl) ⟨rfl, rfl, ⟨by rw [npL_nil]; exact ht, ⟨by decide, fun x hx => absurd hx List.not_mem_nil, f0, (hK r htr.symm).trans hr, fun j hj => absurd hj (Nat.not_lt_zero j)⟩, g0, (hK s hts.symm).trans hs, fun h => absurd rfl h⟩, hK⟩
set_option maxHeartbeats 400000 in
set_option maxRecDepth 100000 in
/-- Text.startOf -/
theorem c_startOf {l : Launch} {D : Dx} {b0 : Nat} {ad : Nat → Nat} {F : Fn} (t r s : Nat) (L : List Nat) (k : Nat) (hT : TextAt D ad F t r s L) (hk : k ≤ npL L) (hne : L ≠ []) : Ct l D b0 yX5_startOf (wsA yX5_startOf cX5_startOf 2 (some .int)) r0 [.ref (ad t), .int (nI k)] ad F (pRd (some (.int (nI (posL L k)))) ad F) noX := by
  refine Ct.of (by decide +kernel) (by simp [Value.category]) (Nat.le_of_ble_eq_true rfl) (fun X eD eb el C Q => ?_)
  subst eD; subst eb; subst el
  obtain ⟨ht, ⟨hl, -⟩, g0, hs, hg⟩ := hT
  unfold TxO at ht
  have h6 := (npL_spec hl).1
  refine V_iload_n C dX5_startOf_0 rfl ?_
  refine V_iflt_f (tgt := 30) C dX5_startOf_1 (by decide) (nI_pos (by omega)) ?_
  refine V_iload_n C dX5_startOf_4 rfl ?_
  refine V_aload_n C dX5_startOf_5 rfl ?_
  refine V_get C dX5_startOf_6 fr_5_29 ht rfl ?_
  refine V_icmpgt_f (tgt := 30) C dX5_startOf_9 (by decide) (fun h => nI_nlt hk (by omega) h) ?_
  refine V_iload_n C dX5_startOf_12 rfl ?_
  refine V_aload_n C dX5_startOf_13 rfl ?_
  refine V_get C dX5_startOf_14 fr_5_26 ht rfl ?_
  refine V_alen C dX5_startOf_17 hs rfl ?_
  refine V_icmpge_f (tgt := 30) C dX5_startOf_18 (by decide) (nI_ge (a := k) (b := 7) (by omega) (by decide)) ?_
  refine V_aload_n C dX5_startOf_21 rfl ?_
  refine V_get C dX5_startOf_22 fr_5_26 ht rfl ?_
  refine V_iload_n C dX5_startOf_25 rfl ?_
  refine V_iald C dX5_startOf_26 hs rfl (by omega) (by decide) ?_
  refine V_nm (hg hne k hk) ?_
  refine V_goto (tgt := 34) C dX5_startOf_27 (by decide) ?_
  exact V_ireturn C Q dX5_startOf_34 rfl (Nat.le_of_ble_eq_true rfl) (Nat.le_of_ble_eq_true rfl) ⟨rfl, rfl, rfl⟩
