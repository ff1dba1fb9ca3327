/-! ===== octets of parts ===== -/
/-- the signs of a part -/
def ptL (L : List Nat) (k : Nat) : List Nat := (L.drop (posL L k)).take (posL L (k + 1) - posL L k)
def octN (L : List Nat) (k : Nat) : Nat := if wideL L then 2 * (posL L (k + 1) - posL L k) else (7 * septL (ptL L k) + 7) / 8
/-- a septet of a row of signs, 0 behind the last one -/
def sepF : List Nat → Nat → Nat
  | [], _ => 0
  | x :: r, i => if i < w1 x then sptO x i else sepF r (i - w1 x)
def octI (L : List Nat) (k place : Nat) : Int32 :=
  if wideL L then (if place % 2 = 0 then nI (L.getD (posL L k + place / 2) 0 / 256) else nI (L.getD (posL L k + place / 2) 0 % 256))
  else ((nI (sepF (ptL L k) (8 * place / 7)) ||| (nI (sepF (ptL L k) (8 * place / 7 + 1)) <<< ((7 : Int32) &&& 31))) >>> (nI (8 * place % 7) &&& 31)) &&& 255
theorem sub_drop {L : List Nat} {i e : Nat} (h : i < e) (he : e ≤ L.length) : (L.drop i).take (e - i) = L.getD i 0 :: (L.drop (i + 1)).take (e - (i + 1)) := by
  have hi : i < L.length := by omega
  rw [List.drop_eq_getElem_cons hi, show e - i = (e - (i + 1)) + 1 by omega, List.take_succ_cons]
  rw [List.getD_eq_getElem?_getD, List.getElem?_eq_getElem hi]
  rfl
theorem sepW {L : List Nat} : ∀ x ∈ L, x < 1000 → True := fun _ _ _ => trivial
theorem septL_cons (x : Nat) (r : List Nat) : septL (x :: r) = w1 x + septL r := by simp [septL]
theorem wide_tr {L : List Nat} (h : ¬ b2i (wideL L) = 0) : wideL L = true := by
  cases h2 : wideL L with
  | true => rfl
  | false => rw [h2] at h; exact absurd rfl h
theorem wide_fa {L : List Nat} (h : b2i (wideL L) = 0) : ¬ wideL L = true := fun h2 => by rw [h2] at h; exact absurd h (by decide)
set_option maxHeartbeats 400000 in
set_option maxRecDepth 100000 in
/-- Text.septetsIn -/
theorem c_septetsIn {l : Launch} {D : Dx} {b0 : Nat} {ad : Nat → Nat} {F : Fn} (t r s : Nat) (L : List Nat) (k : Nat) (hT : TextAt D ad F t r s L) (hk : k < npL L) : Ct l D b0 yX5_septetsIn (wsA yX5_septetsIn cX5_septetsIn 5 (some .int)) (rK 1) [.ref (ad t), .int (nI k)] ad F (pRd (some (.int (nI (septL (ptL L k))))) ad F) noX := by
  refine Ct.of (by decide +kernel) (by simp [Value.category]) (Nat.le_of_ble_eq_true rfl) (fun X eD eb el C Q => ?_)
  subst eD; subst eb; subst el
  obtain ⟨ht, hS, g0, hs, hg⟩ := id hT
  have ht0 := ht
  unfold TxO at ht
  have hl := hS.1
  have hxs := hS.2.1
  have hne : L ≠ [] := fun e => by rw [e, npL_nil] at hk; exact absurd hk (Nat.not_lt_zero k)
  have h6 := (npL_spec hl).1
  have hpe := posL_le L (k + 1)
  have hpm := posL_mono L (show k ≤ k + 1 by omega)
  have hsl := septL_le (L := L)
  refine V_iconst (v := 0) C dX5_septetsIn_0 rfl ?_
  refine V_istore_n C dX5_septetsIn_1 (by decide) ?_
  refine V_aload_n C dX5_septetsIn_2 rfl ?_
  refine V_iload_n C dX5_septetsIn_3 rfl ?_
  refine V_iconst (v := 1) C dX5_septetsIn_4 rfl ?_
  refine V_iadd C dX5_septetsIn_5 ?_
  refine V_nm (nI_1 k) ?_
  refine V_invV C dX5_septetsIn_6 ht rfl (c_startOf t r s L (k + 1) hT hk hne) mv_5_39 rfl (Nat.le_of_ble_eq_true rfl) ⟨Nat.le_of_ble_eq_true rfl, Nat.le_of_ble_eq_true rfl⟩ ⟨Nat.le_of_ble_eq_true rfl, Nat.le_of_ble_eq_true rfl⟩ (fun _ _ _ h => VT_no h) (fun v ad1 F1 hp => ?_)
  obtain ⟨rfl, rfl, rfl⟩ := hp
  refine V_istore_n C dX5_septetsIn_9 (by decide) ?_
  refine V_aload_n C dX5_septetsIn_10 rfl ?_
  refine V_iload_n C dX5_septetsIn_11 rfl ?_
  refine V_invV C dX5_septetsIn_12 ht rfl (c_startOf t r s L k hT (by omega) hne) mv_5_39 rfl (Nat.le_of_ble_eq_true rfl) ⟨Nat.le_of_ble_eq_true rfl, Nat.le_of_ble_eq_true rfl⟩ ⟨Nat.le_of_ble_eq_true rfl, Nat.le_of_ble_eq_true rfl⟩ (fun _ _ _ h => VT_no h) (fun v ad1 F1 hp => ?_)
  obtain ⟨rfl, rfl, rfl⟩ := hp
  refine V_istore C dX5_septetsIn_15 (by decide) ?_
  have loop : ∀ (d i m : Nat), i + d = posL L (k + 1) → m + septL ((L.drop i).take (posL L (k + 1) - i)) = septL (ptL L k) → m ≤ 2 * i →
      V X 0 0 17 [(0, .ref (ad t)), (1, .int (nI k)), (2, .int (nI m)), (3, .int (nI (posL L (k + 1)))), (4, .int (nI i))] [] ad F := by
    intro d
    induction d with
    | zero =>
      intro i m hd hm hm2
      have hi : i = posL L (k + 1) := by omega
      subst hi
      rw [Nat.sub_self, List.take_zero] at hm
      have hm3 : m = septL (ptL L k) := by rw [← hm]; rfl
      subst hm3
      refine V_iload C dX5_septetsIn_17 rfl ?_
      refine V_iload_n C dX5_septetsIn_19 rfl ?_
      refine V_icmpge_t (tgt := 41) C dX5_septetsIn_20 (by decide) (Int32.le_refl _) ?_
      refine V_iload_n C dX5_septetsIn_41 rfl ?_
      exact V_ireturn C Q dX5_septetsIn_42 rfl (Nat.le_of_ble_eq_true rfl) (Nat.le_of_ble_eq_true rfl) ⟨rfl, rfl, rfl⟩
    | succ d ih =>
      intro i m hd hm hm2
      have hx9 := getD_lt hxs i
      have hw2 : w1 (L.getD i 0) ≤ 2 := by rcases w1_12 (L.getD i 0) with h | h <;> rw [h] <;> decide
      refine V_iload C dX5_septetsIn_17 rfl ?_
      refine V_iload_n C dX5_septetsIn_19 rfl ?_
      refine V_icmpge_f (tgt := 41) C dX5_septetsIn_20 (by decide) (nI_ge (by omega) (by omega)) ?_
      refine V_iload_n C dX5_septetsIn_23 rfl ?_
      refine V_aload_n C dX5_septetsIn_24 rfl ?_
      refine V_iload C dX5_septetsIn_25 rfl ?_
      refine V_invV C dX5_septetsIn_27 ht rfl (c_signAt t r s L _ i ht0 hS (by omega)) mv_5_45 rfl (Nat.le_of_ble_eq_true rfl) ⟨Nat.le_of_ble_eq_true rfl, Nat.le_of_ble_eq_true rfl⟩ ⟨Nat.le_of_ble_eq_true rfl, Nat.le_of_ble_eq_true rfl⟩ (fun _ _ _ h => VT_no h) (fun v ad1 F1 hp => ?_)
      obtain ⟨rfl, rfl, rfl⟩ := hp
      refine V_invS C dX5_septetsIn_30 (c_septetsOf (L.getD i 0) hx9) ms_5_32 rfl (Nat.le_of_ble_eq_true rfl) ⟨Nat.le_of_ble_eq_true rfl, Nat.le_of_ble_eq_true rfl⟩ ⟨Nat.le_of_ble_eq_true rfl, Nat.le_of_ble_eq_true rfl⟩ (fun _ _ _ h => VT_no h) (fun v ad1 F1 hp => ?_)
      obtain ⟨rfl, rfl, rfl⟩ := hp
      refine V_iadd C dX5_septetsIn_33 ?_
      refine V_nm (nI_add _ _) ?_
      refine V_istore_n C dX5_septetsIn_34 (by decide) ?_
      refine V_iinc C dX5_septetsIn_35 rfl (nI_inc _) (by decide) ?_
      refine V_goto (tgt := 17) C dX5_septetsIn_38 (by decide) ?_
      refine V_sb (ih (i + 1) (m + w1 (L.getD i 0)) (by omega) (by rw [sub_drop (show i < posL L (k + 1) by omega) hpe, septL_cons] at hm; omega) (by omega)) ⟨rfl, rfl, rfl, rfl, rfl, trivial⟩
  refine V_sb (loop (posL L (k + 1) - posL L k) (posL L k) 0 (by omega) (by rw [Nat.zero_add]; rfl) (Nat.zero_le _)) ⟨rfl, rfl, rfl, rfl, rfl, trivial⟩
set_option maxHeartbeats 400000 in
set_option maxRecDepth 100000 in
/-- Text.octetsOf -/
theorem c_octetsOf {l : Launch} {D : Dx} {b0 : Nat} {ad : Nat → Nat} {F : Fn} (t r s : Nat) (L : List Nat) (k : Nat) (hT : TextAt D ad F t r s L) (hk : k < npL L) : Ct l D b0 yX5_octetsOf (wsA yX5_octetsOf cX5_octetsOf 2 (some .int)) (rK 2) [.ref (ad t), .int (nI k)] ad F (pRd (some (.int (nI (octN L k)))) ad F) noX := by
  refine Ct.of (by decide +kernel) (by simp [Value.category]) (Nat.le_of_ble_eq_true rfl) (fun X eD eb el C Q => ?_)
  subst eD; subst eb; subst el
  obtain ⟨ht, hS, g0, hs, hg⟩ := id hT
  have ht0 := ht
  unfold TxO at ht
  have hl := hS.1
  have hxs := hS.2.1
  have hne : L ≠ [] := fun e => by rw [e, npL_nil] at hk; exact absurd hk (Nat.not_lt_zero k)
  have h6 := (npL_spec hl).1
  have hpe := posL_le L (k + 1)
  have hpm := posL_mono L (show k ≤ k + 1 by omega)
  have hsl := septL_le (L := L)
  refine V_aload_n C dX5_octetsOf_0 rfl ?_
  refine V_get C dX5_octetsOf_1 fr_5_22 ht rfl ?_
  refine V_ifeq (tgt := 23) C dX5_octetsOf_4 (by decide) (fun hc => ?_) (fun hc => ?_)
  · have hw := wide_fa hc
    have hp2 : septL (ptL L k) ≤ 2 * 400 := by
      refine Nat.le_trans septL_le (Nat.mul_le_mul_left 2 ?_)
      unfold ptL
      rw [List.length_take, List.length_drop]
      omega
    rw [show octN L k = (7 * septL (ptL L k) + 7) / 8 from if_neg hw] at Q
    refine V_bipush (v := 7) C dX5_octetsOf_23 (by decide) ?_
    refine V_aload_n C dX5_octetsOf_25 rfl ?_
    refine V_iload_n C dX5_octetsOf_26 rfl ?_
    refine V_invV C dX5_octetsOf_27 ht rfl (c_septetsIn t r s L k hT hk) mv_5_42 rfl (Nat.le_of_ble_eq_true rfl) ⟨Nat.le_of_ble_eq_true rfl, Nat.le_of_ble_eq_true rfl⟩ ⟨Nat.le_of_ble_eq_true rfl, Nat.le_of_ble_eq_true rfl⟩ (fun _ _ _ h => VT_no h) (fun v ad1 F1 hp => ?_)
    obtain ⟨rfl, rfl, rfl⟩ := hp
    refine V_imul C dX5_octetsOf_30 ?_
    refine V_nm (pk_mul 7 _) ?_
    refine V_bipush (v := 7) C dX5_octetsOf_31 (by decide) ?_
    refine V_iadd C dX5_octetsOf_33 ?_
    refine V_nm (nI_add _ 7) ?_
    refine V_bipush (v := 8) C dX5_octetsOf_34 (by decide) ?_
    refine V_idiv C dX5_octetsOf_36 (by decide) ?_
    refine V_nm (pk_div (d := 8) (by omega) (by decide) (by decide)) ?_
    exact V_ireturn C Q dX5_octetsOf_37 rfl (Nat.le_of_ble_eq_true rfl) (Nat.le_of_ble_eq_true rfl) ⟨rfl, rfl, rfl⟩
  · rw [show octN L k = 2 * (posL L (k + 1) - posL L k) from if_pos (wide_tr hc)] at Q
    refine V_iconst (v := 2) C dX5_octetsOf_7 rfl ?_
    refine V_aload_n C dX5_octetsOf_8 rfl ?_
    refine V_iload_n C dX5_octetsOf_9 rfl ?_
    refine V_iconst (v := 1) C dX5_octetsOf_10 rfl ?_
    refine V_iadd C dX5_octetsOf_11 ?_
    refine V_nm (nI_1 k) ?_
    refine V_invV C dX5_octetsOf_12 ht rfl (c_startOf t r s L (k + 1) hT hk hne) mv_5_39 rfl (Nat.le_of_ble_eq_true rfl) ⟨Nat.le_of_ble_eq_true rfl, Nat.le_of_ble_eq_true rfl⟩ ⟨Nat.le_of_ble_eq_true rfl, Nat.le_of_ble_eq_true rfl⟩ (fun _ _ _ h => VT_no h) (fun v ad1 F1 hp => ?_)
    obtain ⟨rfl, rfl, rfl⟩ := hp
    refine V_aload_n C dX5_octetsOf_15 rfl ?_
    refine V_iload_n C dX5_octetsOf_16 rfl ?_
    refine V_invV C dX5_octetsOf_17 ht rfl (c_startOf t r s L k hT (by omega) hne) mv_5_39 rfl (Nat.le_of_ble_eq_true rfl) ⟨Nat.le_of_ble_eq_true rfl, Nat.le_of_ble_eq_true rfl⟩ ⟨Nat.le_of_ble_eq_true rfl, Nat.le_of_ble_eq_true rfl⟩ (fun _ _ _ h => VT_no h) (fun v ad1 F1 hp => ?_)
    obtain ⟨rfl, rfl, rfl⟩ := hp
    refine V_isub C dX5_octetsOf_20 ?_
    refine V_nm (pk_sub hpm) ?_
    refine V_imul C dX5_octetsOf_21 ?_
    refine V_nm (pk_mul 2 _) ?_
    exact V_ireturn C Q dX5_octetsOf_22 rfl (Nat.le_of_ble_eq_true rfl) (Nat.le_of_ble_eq_true rfl) ⟨rfl, rfl, rfl⟩
set_option maxHeartbeats 400000 in
set_option maxRecDepth 100000 in
/-- Text.septetAt -/
theorem c_septetAt {l : Launch} {D : Dx} {b0 : Nat} {ad : Nat → Nat} {F : Fn} (t r s : Nat) (L : List Nat) (k : Nat) (x : Nat) (hT : TextAt D ad F t r s L) (hk : k < npL L) (hx : x < 2 ^ 30) : Ct l D b0 yX5_septetAt (wsA yX5_septetAt cX5_septetAt 8 (some .int)) (rK 1) [.ref (ad t), .int (nI k), .int (nI x)] ad F (pRd (some (.int (nI (sepF (ptL L k) x)))) ad F) noX := by
  refine Ct.of (by decide +kernel) (by simp [Value.category]) (Nat.le_of_ble_eq_true rfl) (fun X eD eb el C Q => ?_)
  subst eD; subst eb; subst el
  obtain ⟨ht, hS, g0, hs, hg⟩ := id hT
  have ht0 := ht
  unfold TxO at ht
  have hl := hS.1
  have hxs := hS.2.1
  have hne : L ≠ [] := fun e => by rw [e, npL_nil] at hk; exact absurd hk (Nat.not_lt_zero k)
  have h6 := (npL_spec hl).1
  have hpe := posL_le L (k + 1)
  have hpm := posL_mono L (show k ≤ k + 1 by omega)
  have hsl := septL_le (L := L)
  refine V_iconst (v := 0) C dX5_septetAt_0 rfl ?_
  refine V_istore_n C dX5_septetAt_1 (by decide) ?_
  refine V_aload_n C dX5_septetAt_2 rfl ?_
  refine V_iload_n C dX5_septetAt_3 rfl ?_
  refine V_iconst (v := 1) C dX5_septetAt_4 rfl ?_
  refine V_iadd C dX5_septetAt_5 ?_
  refine V_nm (nI_1 k) ?_
  refine V_invV C dX5_septetAt_6 ht rfl (c_startOf t r s L (k + 1) hT hk hne) mv_5_39 rfl (Nat.le_of_ble_eq_true rfl) ⟨Nat.le_of_ble_eq_true rfl, Nat.le_of_ble_eq_true rfl⟩ ⟨Nat.le_of_ble_eq_true rfl, Nat.le_of_ble_eq_true rfl⟩ (fun _ _ _ h => VT_no h) (fun v ad1 F1 hp => ?_)
  obtain ⟨rfl, rfl, rfl⟩ := hp
  refine V_istore C dX5_septetAt_9 (by decide) ?_
  refine V_aload_n C dX5_septetAt_11 rfl ?_
  refine V_iload_n C dX5_septetAt_12 rfl ?_
  refine V_invV C dX5_septetAt_13 ht rfl (c_startOf t r s L k hT (by omega) hne) mv_5_39 rfl (Nat.le_of_ble_eq_true rfl) ⟨Nat.le_of_ble_eq_true rfl, Nat.le_of_ble_eq_true rfl⟩ ⟨Nat.le_of_ble_eq_true rfl, Nat.le_of_ble_eq_true rfl⟩ (fun _ _ _ h => VT_no h) (fun v ad1 F1 hp => ?_)
  obtain ⟨rfl, rfl, rfl⟩ := hp
  refine V_istore C dX5_septetAt_16 (by decide) ?_
  have loop : ∀ (d i m : Nat), i + d = posL L (k + 1) → m ≤ x → sepF ((L.drop i).take (posL L (k + 1) - i)) (x - m) = sepF (ptL L k) x →
      V X 0 0 18 [(0, .ref (ad t)), (1, .int (nI k)), (2, .int (nI x)), (3, .int (nI m)), (4, .int (nI (posL L (k + 1)))), (5, .int (nI i))] [] ad F := by
    intro d
    induction d with
    | zero =>
      intro i m hd hm hs9
      have hi : i = posL L (k + 1) := by omega
      subst hi
      rw [Nat.sub_self, List.take_zero] at hs9
      rw [← hs9] at Q
      refine V_iload C dX5_septetAt_18 rfl ?_
      refine V_iload C dX5_septetAt_20 rfl ?_
      refine V_icmpge_t (tgt := 68) C dX5_septetAt_22 (by decide) (Int32.le_refl _) ?_
      refine V_iconst (v := 0) C dX5_septetAt_68 rfl ?_
      exact V_ireturn C Q dX5_septetAt_69 rfl (Nat.le_of_ble_eq_true rfl) (Nat.le_of_ble_eq_true rfl) ⟨rfl, rfl, rfl⟩
    | succ d ih =>
      intro i m hd hm hs9
      have hx9 := getD_lt hxs i
      have hw2 : w1 (L.getD i 0) ≤ 2 := by rcases w1_12 (L.getD i 0) with h | h <;> rw [h] <;> decide
      rw [sub_drop (show i < posL L (k + 1) by omega) hpe, sepF] at hs9
      refine V_iload C dX5_septetAt_18 rfl ?_
      refine V_iload C dX5_septetAt_20 rfl ?_
      refine V_icmpge_f (tgt := 68) C dX5_septetAt_22 (by decide) (nI_ge (by omega) (by omega)) ?_
      refine V_aload_n C dX5_septetAt_25 rfl ?_
      refine V_iload C dX5_septetAt_26 rfl ?_
      refine V_invV C dX5_septetAt_28 ht rfl (c_signAt t r s L _ i ht0 hS (by omega)) mv_5_45 rfl (Nat.le_of_ble_eq_true rfl) ⟨Nat.le_of_ble_eq_true rfl, Nat.le_of_ble_eq_true rfl⟩ ⟨Nat.le_of_ble_eq_true rfl, Nat.le_of_ble_eq_true rfl⟩ (fun _ _ _ h => VT_no h) (fun v ad1 F1 hp => ?_)
      obtain ⟨rfl, rfl, rfl⟩ := hp
      refine V_istore C dX5_septetAt_31 (by decide) ?_
      refine V_iload C dX5_septetAt_33 rfl ?_
      refine V_invS C dX5_septetAt_35 (c_septetsOf (L.getD i 0) hx9) ms_5_32 rfl (Nat.le_of_ble_eq_true rfl) ⟨Nat.le_of_ble_eq_true rfl, Nat.le_of_ble_eq_true rfl⟩ ⟨Nat.le_of_ble_eq_true rfl, Nat.le_of_ble_eq_true rfl⟩ (fun _ _ _ h => VT_no h) (fun v ad1 F1 hp => ?_)
      obtain ⟨rfl, rfl, rfl⟩ := hp
      refine V_istore C dX5_septetAt_38 (by decide) ?_
      refine V_iload_n C dX5_septetAt_40 rfl ?_
      refine V_iload_n C dX5_septetAt_41 rfl ?_
      refine V_iload C dX5_septetAt_42 rfl ?_
      refine V_iadd C dX5_septetAt_44 ?_
      refine V_nm (nI_add _ _) ?_
      refine V_icmpge (tgt := 57) C dX5_septetAt_45 (by decide) (fun hc => ?_) (fun hc => ?_)
      · have hlt : ¬ x - m < w1 (L.getD i 0) := fun h => nI_ge (show x < m + w1 (L.getD i 0) by omega) (by omega) hc
        rw [if_neg hlt] at hs9
        refine V_iload_n C dX5_septetAt_57 rfl ?_
        refine V_iload C dX5_septetAt_58 rfl ?_
        refine V_iadd C dX5_septetAt_60 ?_
        refine V_nm (nI_add _ _) ?_
        refine V_istore_n C dX5_septetAt_61 (by decide) ?_
        refine V_iinc C dX5_septetAt_62 rfl (nI_inc _) (by decide) ?_
        refine V_goto (tgt := 18) C dX5_septetAt_65 (by decide) ?_
        refine V_sb (ih (i + 1) (m + w1 (L.getD i 0)) (by omega) (by omega) (by rw [show x - (m + w1 (L.getD i 0)) = x - m - w1 (L.getD i 0) by omega]; exact hs9)) ⟨rfl, rfl, rfl, rfl, rfl, rfl, trivial⟩
      · have hlt : x - m < w1 (L.getD i 0) := by
          have : x < m + w1 (L.getD i 0) := Nat.lt_of_not_le fun h => hc (nI_le h (by omega))
          omega
        rw [if_pos hlt] at hs9
        rw [← hs9] at Q
        refine V_iload C dX5_septetAt_48 rfl ?_
        refine V_iload_n C dX5_septetAt_50 rfl ?_
        refine V_iload_n C dX5_septetAt_51 rfl ?_
        refine V_isub C dX5_septetAt_52 ?_
        refine V_nm (pk_sub hm) ?_
        refine V_invS C dX5_septetAt_53 (c_septetOf (L.getD i 0) (x - m) hx9 (by omega)) ms_5_62 rfl (Nat.le_of_ble_eq_true rfl) ⟨Nat.le_of_ble_eq_true rfl, Nat.le_of_ble_eq_true rfl⟩ ⟨Nat.le_of_ble_eq_true rfl, Nat.le_of_ble_eq_true rfl⟩ (fun _ _ _ h => VT_no h) (fun v ad1 F1 hp => ?_)
        obtain ⟨rfl, rfl, rfl⟩ := hp
        exact V_ireturn C Q dX5_septetAt_56 rfl (Nat.le_of_ble_eq_true rfl) (Nat.le_of_ble_eq_true rfl) ⟨rfl, rfl, rfl⟩
  refine V_sb (loop (posL L (k + 1) - posL L k) (posL L k) 0 (by omega) (Nat.zero_le _) rfl) ⟨rfl, rfl, rfl, rfl, rfl, rfl, trivial⟩
set_option maxHeartbeats 400000 in
set_option maxRecDepth 100000 in
/-- Text.octetAt -/
theorem c_octetAt {l : Launch} {D : Dx} {b0 : Nat} {ad : Nat → Nat} {F : Fn} (t r s : Nat) (L : List Nat) (k : Nat) (x : Nat) (hT : TextAt D ad F t r s L) (hk : k < npL L) (hx : x < octN L k) : Ct l D b0 yX5_octetAt (wsA yX5_octetAt cX5_octetAt 6 (some .int)) (rK 2) [.ref (ad t), .int (nI k), .int (nI x)] ad F (pRd (some (.int (octI L k x))) ad F) noX := by
  refine Ct.of (by decide +kernel) (by simp [Value.category]) (Nat.le_of_ble_eq_true rfl) (fun X eD eb el C Q => ?_)
  subst eD; subst eb; subst el
  obtain ⟨ht, hS, g0, hs, hg⟩ := id hT
  have ht0 := ht
  unfold TxO at ht
  have hl := hS.1
  have hxs := hS.2.1
  have hne : L ≠ [] := fun e => by rw [e, npL_nil] at hk; exact absurd hk (Nat.not_lt_zero k)
  have h6 := (npL_spec hl).1
  have hpe := posL_le L (k + 1)
  have hpm := posL_mono L (show k ≤ k + 1 by omega)
  have hsl := septL_le (L := L)
  refine V_aload_n C dX5_octetAt_0 rfl ?_
  refine V_get C dX5_octetAt_1 fr_5_22 ht rfl ?_
  refine V_ifeq (tgt := 41) C dX5_octetAt_4 (by decide) (fun hc => ?_) (fun hc => ?_)
  · have hw := wide_fa hc
    have hp2 : septL (ptL L k) ≤ 2 * 400 := by
      refine Nat.le_trans septL_le (Nat.mul_le_mul_left 2 ?_)
      unfold ptL
      rw [List.length_take, List.length_drop]
      omega
    rw [show octN L k = (7 * septL (ptL L k) + 7) / 8 from if_neg hw] at hx
    have e : octI L k x = ((nI (sepF (ptL L k) (8 * x / 7)) ||| (nI (sepF (ptL L k) (8 * x / 7 + 1)) <<< ((7 : Int32) &&& 31))) >>> (nI (8 * x % 7) &&& 31)) &&& 255 := if_neg hw
    rw [e] at Q
    refine V_bipush (v := 8) C dX5_octetAt_41 (by decide) ?_
    refine V_iload_n C dX5_octetAt_43 rfl ?_
    refine V_imul C dX5_octetAt_44 ?_
    refine V_nm (pk_mul 8 x) ?_
    refine V_istore_n C dX5_octetAt_45 (by decide) ?_
    refine V_aload_n C dX5_octetAt_46 rfl ?_
    refine V_iload_n C dX5_octetAt_47 rfl ?_
    refine V_iload_n C dX5_octetAt_48 rfl ?_
    refine V_bipush (v := 7) C dX5_octetAt_49 (by decide) ?_
    refine V_idiv C dX5_octetAt_51 (by decide) ?_
    refine V_nm (pk_div (d := 7) (by omega) (by decide) (by decide)) ?_
    refine V_invV C dX5_octetAt_52 ht rfl (c_septetAt t r s L k (8 * x / 7) hT hk (by omega)) mv_5_48 rfl (Nat.le_of_ble_eq_true rfl) ⟨Nat.le_of_ble_eq_true rfl, Nat.le_of_ble_eq_true rfl⟩ ⟨Nat.le_of_ble_eq_true rfl, Nat.le_of_ble_eq_true rfl⟩ (fun _ _ _ h => VT_no h) (fun v ad1 F1 hp => ?_)
    obtain ⟨rfl, rfl, rfl⟩ := hp
    refine V_istore C dX5_octetAt_55 (by decide) ?_
    refine V_aload_n C dX5_octetAt_57 rfl ?_
    refine V_iload_n C dX5_octetAt_58 rfl ?_
    refine V_iload_n C dX5_octetAt_59 rfl ?_
    refine V_bipush (v := 7) C dX5_octetAt_60 (by decide) ?_
    refine V_idiv C dX5_octetAt_62 (by decide) ?_
    refine V_nm (pk_div (d := 7) (by omega) (by decide) (by decide)) ?_
    refine V_iconst (v := 1) C dX5_octetAt_63 rfl ?_
    refine V_iadd C dX5_octetAt_64 ?_
    refine V_nm (nI_1 _) ?_
    refine V_invV C dX5_octetAt_65 ht rfl (c_septetAt t r s L k (8 * x / 7 + 1) hT hk (by omega)) mv_5_48 rfl (Nat.le_of_ble_eq_true rfl) ⟨Nat.le_of_ble_eq_true rfl, Nat.le_of_ble_eq_true rfl⟩ ⟨Nat.le_of_ble_eq_true rfl, Nat.le_of_ble_eq_true rfl⟩ (fun _ _ _ h => VT_no h) (fun v ad1 F1 hp => ?_)
    obtain ⟨rfl, rfl, rfl⟩ := hp
    refine V_istore C dX5_octetAt_68 (by decide) ?_
    refine V_iload C dX5_octetAt_70 rfl ?_
    refine V_iload C dX5_octetAt_72 rfl ?_
    refine V_bipush (v := 7) C dX5_octetAt_74 (by decide) ?_
    refine V_ishl C dX5_octetAt_76 ?_
    refine V_ior C dX5_octetAt_77 ?_
    refine V_iload_n C dX5_octetAt_78 rfl ?_
    refine V_bipush (v := 7) C dX5_octetAt_79 (by decide) ?_
    refine V_irem C dX5_octetAt_81 (by decide) ?_
    refine V_nm (pk_rem (d := 7) (by omega) (by decide) (by decide)) ?_
    refine V_ishr C dX5_octetAt_82 ?_
    refine V_sipush (v := 255) C dX5_octetAt_83 (by decide) ?_
    refine V_iand C dX5_octetAt_86 ?_
    exact V_ireturn C Q dX5_octetAt_87 rfl (Nat.le_of_ble_eq_true rfl) (Nat.le_of_ble_eq_true rfl) ⟨rfl, rfl, rfl⟩
  · have hw := wide_tr hc
    rw [show octN L k = 2 * (posL L (k + 1) - posL L k) from if_pos hw] at hx
    have hx9 := getD_lt hxs (posL L k + x / 2)
    have e : octI L k x = (if x % 2 = 0 then nI (L.getD (posL L k + x / 2) 0 / 256) else nI (L.getD (posL L k + x / 2) 0 % 256)) := if_pos hw
    refine V_aload_n C dX5_octetAt_7 rfl ?_
    refine V_aload_n C dX5_octetAt_8 rfl ?_
    refine V_iload_n C dX5_octetAt_9 rfl ?_
    refine V_invV C dX5_octetAt_10 ht rfl (c_startOf t r s L k hT (by omega) hne) mv_5_39 rfl (Nat.le_of_ble_eq_true rfl) ⟨Nat.le_of_ble_eq_true rfl, Nat.le_of_ble_eq_true rfl⟩ ⟨Nat.le_of_ble_eq_true rfl, Nat.le_of_ble_eq_true rfl⟩ (fun _ _ _ h => VT_no h) (fun v ad1 F1 hp => ?_)
    obtain ⟨rfl, rfl, rfl⟩ := hp
    refine V_iload_n C dX5_octetAt_13 rfl ?_
    refine V_iconst (v := 2) C dX5_octetAt_14 rfl ?_
    refine V_idiv C dX5_octetAt_15 (by decide) ?_
    refine V_nm (pk_div (d := 2) (by omega) (by decide) (by decide)) ?_
    refine V_iadd C dX5_octetAt_16 ?_
    refine V_nm (nI_add _ _) ?_
    refine V_invV C dX5_octetAt_17 ht rfl (c_signAt t r s L _ (posL L k + x / 2) ht0 hS (by omega)) mv_5_45 rfl (Nat.le_of_ble_eq_true rfl) ⟨Nat.le_of_ble_eq_true rfl, Nat.le_of_ble_eq_true rfl⟩ ⟨Nat.le_of_ble_eq_true rfl, Nat.le_of_ble_eq_true rfl⟩ (fun _ _ _ h => VT_no h) (fun v ad1 F1 hp => ?_)
    obtain ⟨rfl, rfl, rfl⟩ := hp
    refine V_istore_n C dX5_octetAt_20 (by decide) ?_
    refine V_iload_n C dX5_octetAt_21 rfl ?_
    refine V_iconst (v := 2) C dX5_octetAt_22 rfl ?_
    refine V_irem C dX5_octetAt_23 (by decide) ?_
    refine V_nm (pk_rem (d := 2) (by omega) (by decide) (by decide)) ?_
    refine V_ifne (tgt := 35) C dX5_octetAt_24 (by decide) (fun hc2 => ?_) (fun hc2 => ?_)
    · have h2 : ¬ x % 2 = 0 := fun h => hc2 (by rw [h]; rfl)
      rw [e, if_neg h2] at Q
      refine V_iload_n C dX5_octetAt_35 rfl ?_
      refine V_sipush (v := 256) C dX5_octetAt_36 (by decide) ?_
      refine V_irem C dX5_octetAt_39 (by decide) ?_
      refine V_nm (pk_rem (d := 256) (by omega) (by decide) (by decide)) ?_
      exact V_ireturn C Q dX5_octetAt_40 rfl (Nat.le_of_ble_eq_true rfl) (Nat.le_of_ble_eq_true rfl) ⟨rfl, rfl, rfl⟩
    · have h2 : x % 2 = 0 := (nI_eq (b := 0) (by omega) (by decide)).mp hc2
      rw [e, if_pos h2] at Q
      refine V_iload_n C dX5_octetAt_27 rfl ?_
      refine V_sipush (v := 256) C dX5_octetAt_28 (by decide) ?_
      refine V_idiv C dX5_octetAt_31 (by decide) ?_
      refine V_nm (pk_div (d := 256) (by omega) (by decide) (by decide)) ?_
      refine V_goto (tgt := 40) C dX5_octetAt_32 (by decide) ?_
      exact V_ireturn C Q dX5_octetAt_40 rfl (Nat.le_of_ble_eq_true rfl) (Nat.le_of_ble_eq_true rfl) ⟨rfl, rfl, rfl⟩
