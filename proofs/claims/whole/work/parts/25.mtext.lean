/-! ===== the model's rows of signs ===== -/
/-- a row that stands in an array from a place on -/
def RwA (D : Dx) (F : Fn) (c N fr : Nat) (L : List Nat) : Prop := N ≤ 8000 ∧ fr + L.length ≤ N ∧ (∀ x ∈ L, x < 1000) ∧ ∃ f : Nat → Int32, F c = some (aI D N f) ∧ ∀ j, j < L.length → f (fr + j) = nI (L.getD j 0)
theorem wide_suc {L : List Nat} {i : Nat} (h : i < L.length) : wideL (L.take (i + 1)) = (wideL (L.take i) || decide (160 ≤ L.getD i 0)) := by
  unfold wideL
  rw [List.take_succ, List.any_append, List.getD_eq_getElem?_getD, List.getElem?_eq_getElem h]
  simp
theorem sept_suc {L : List Nat} {i : Nat} (h : i < L.length) : septL (L.take (i + 1)) = septL (L.take i) + w1 (L.getD i 0) := by
  unfold septL
  rw [List.take_succ, List.map_append, List.sum_append, List.getD_eq_getElem?_getD, List.getElem?_eq_getElem h]
  simp
theorem sept_le (L : List Nat) : septL L ≤ 2 * L.length := by
  have h := sum_le_two (L.map w1) (fun s hs => by
    obtain ⟨x, -, rfl⟩ := List.mem_map.mp hs
    rcases w1_12 x with e | e <;> omega)
  rwa [List.length_map] at h
set_option maxHeartbeats 400000 in
set_option maxRecDepth 100000 in
/-- width -/
theorem m_width {l : Launch} {D : Dx} {b0 : Nat} {ad : Nat → Nat} {F : Fn} (x : Nat) (hx : x < 1000) : Ct l D b0 yX7_width (wsA yX7_width cX7_width 1 (some .int)) r0 [.int (nI x)] ad F (pRd (some (.int (nI (w1 x)))) ad F) noX := by
  refine Ct.of (by decide +kernel) (by simp [Value.category]) (Nat.le_of_ble_eq_true rfl) (fun X eD eb el C Q => ?_)
  subst eD; subst eb; subst el
  refine V_iload_n C dX7_width_0 rfl ?_
  refine V_sipush (v := 128) C dX7_width_1 (by decide) ?_
  refine V_icmpge (tgt := 11) C dX7_width_4 (by decide) (fun h1 => ?_) (fun h1 => ?_)
  · rw [show w1 x = 2 from if_neg (fun h => absurd (show nI x < 128 from nI_lt h (by decide)) (Int32.not_lt.mpr h1))] at Q
    refine V_iconst (v := 2) C dX7_width_11 rfl ?_
    exact V_ireturn C Q dX7_width_12 rfl (Nat.le_of_ble_eq_true rfl) (Nat.le_of_ble_eq_true rfl) ⟨rfl, rfl, rfl⟩
  · rw [show w1 x = 1 from if_pos (Nat.lt_of_not_le (fun h => h1 (Int32.not_lt.mp (nI_nlt (a := x) (b := 128) h (by omega)))))] at Q
    refine V_iconst (v := 1) C dX7_width_7 rfl ?_
    refine V_goto (tgt := 12) C dX7_width_8 (by decide) ?_
    exact V_ireturn C Q dX7_width_12 rfl (Nat.le_of_ble_eq_true rfl) (Nat.le_of_ble_eq_true rfl) ⟨rfl, rfl, rfl⟩
set_option maxHeartbeats 400000 in
set_option maxRecDepth 100000 in
/-- septetsIn -/
theorem m_septetsIn {l : Launch} {D : Dx} {b0 : Nat} {ad : Nat → Nat} {F : Fn} (c N fr : Nat) (L : List Nat) (hR : RwA D F c N fr L) : Ct l D b0 yX7_septetsIn (wsA yX7_septetsIn cX7_septetsIn 5 (some .int)) (rK 1) [.ref (ad c), .int (nI fr), .int (nI L.length)] ad F (pRd (some (.int (nI (septL L)))) ad F) noX := by
  refine Ct.of (by decide +kernel) (by simp [Value.category]) (Nat.le_of_ble_eq_true rfl) (fun X eD eb el C Q => ?_)
  subst eD; subst eb; subst el
  obtain ⟨hN, hfr, hL, f, hr, hf⟩ := hR
  refine V_iconst (v := 0) C dX7_septetsIn_0 rfl ?_
  refine V_istore_n C dX7_septetsIn_1 (by decide) ?_
  refine V_iload_n C dX7_septetsIn_2 rfl ?_
  refine V_istore C dX7_septetsIn_3 (by decide) ?_
  have loop : ∀ (d i : Nat), i + d = L.length → V X 0 0 5 [(0, .ref (ad c)), (1, .int (nI fr)), (2, .int (nI L.length)), (3, .int (nI (septL (L.take i)))), (4, .int (nI (fr + i)))] [] ad F := by
    intro d
    induction d with
    | zero =>
      intro i hd
      have hi : i = L.length := by omega
      subst hi
      refine V_iload C dX7_septetsIn_5 rfl ?_
      refine V_iload_n C dX7_septetsIn_7 rfl ?_
      refine V_iload_n C dX7_septetsIn_8 rfl ?_
      refine V_iadd C dX7_septetsIn_9 ?_
      refine V_nm (nI_add _ _) ?_
      refine V_icmpge_t (tgt := 29) C dX7_septetsIn_10 (by decide) (Int32.le_refl _) ?_
      refine V_iload_n C dX7_septetsIn_29 rfl ?_
      rw [List.take_length]
      exact V_ireturn C Q dX7_septetsIn_30 rfl (Nat.le_of_ble_eq_true rfl) (Nat.le_of_ble_eq_true rfl) ⟨rfl, rfl, rfl⟩
    | succ d ih =>
      intro i hd
      have hx : L.getD i 0 < 1000 := getD_lt hL i
      have hle := sept_le (L.take i)
      rw [List.length_take] at hle
      refine V_iload C dX7_septetsIn_5 rfl ?_
      refine V_iload_n C dX7_septetsIn_7 rfl ?_
      refine V_iload_n C dX7_septetsIn_8 rfl ?_
      refine V_iadd C dX7_septetsIn_9 ?_
      refine V_nm (nI_add _ _) ?_
      refine V_icmpge_f (tgt := 29) C dX7_septetsIn_10 (by decide) (nI_ge (a := fr + i) (b := fr + L.length) (by omega) (by omega)) ?_
      refine V_iload_n C dX7_septetsIn_13 rfl ?_
      refine V_aload_n C dX7_septetsIn_14 rfl ?_
      refine V_iload C dX7_septetsIn_15 rfl ?_
      refine V_iald C dX7_septetsIn_17 hr rfl (show fr + i < N by omega) (by omega) ?_
      refine V_nm (hf i (by omega)) ?_
      refine V_invS C dX7_septetsIn_18 (m_width (L.getD i 0) hx) ms_7_78 rfl (Nat.le_of_ble_eq_true rfl) ⟨Nat.le_of_ble_eq_true rfl, Nat.le_of_ble_eq_true rfl⟩ ⟨Nat.le_of_ble_eq_true rfl, Nat.le_of_ble_eq_true rfl⟩ (fun _ _ _ h => VT_no h) (fun v ad1 F1 hp => ?_)
      obtain ⟨rfl, rfl, rfl⟩ := hp
      refine V_iadd C dX7_septetsIn_21 ?_
      refine V_nm (nI_add _ _) ?_
      refine V_istore_n C dX7_septetsIn_22 (by decide) ?_
      refine V_iinc C dX7_septetsIn_23 rfl (nI_inc _) (by decide) ?_
      refine V_goto (tgt := 5) C dX7_septetsIn_26 (by decide) ?_
      refine V_sb (ih (i + 1) (by omega)) ⟨rfl, rfl, rfl, ?_, rfl, trivial⟩
      rw [sept_suc (by omega)]; rfl
  refine V_sb (loop L.length 0 (Nat.zero_add _)) ⟨rfl, rfl, rfl, rfl, rfl, trivial⟩
set_option maxHeartbeats 400000 in
set_option maxRecDepth 100000 in
/-- hasWide -/
theorem m_hasWide {l : Launch} {D : Dx} {b0 : Nat} {ad : Nat → Nat} {F : Fn} (c N fr : Nat) (L : List Nat) (hR : RwA D F c N fr L) : Ct l D b0 yX7_hasWide (wsA yX7_hasWide cX7_hasWide 5 (some .boolean)) r0 [.ref (ad c), .int (nI fr), .int (nI L.length)] ad F (pRd (some (.int (b2i (wideL L)))) ad F) noX := by
  refine Ct.of (by decide +kernel) (by simp [Value.category]) (Nat.le_of_ble_eq_true rfl) (fun X eD eb el C Q => ?_)
  subst eD; subst eb; subst el
  obtain ⟨hN, hfr, hL, f, hr, hf⟩ := hR
  refine V_iconst (v := 0) C dX7_hasWide_0 rfl ?_
  refine V_istore_n C dX7_hasWide_1 (by decide) ?_
  refine V_iload_n C dX7_hasWide_2 rfl ?_
  refine V_istore C dX7_hasWide_3 (by decide) ?_
  have loop : ∀ (d i : Nat), i + d = L.length → V X 0 0 5 [(0, .ref (ad c)), (1, .int (nI fr)), (2, .int (nI L.length)), (3, .int (b2i (wideL (L.take i)))), (4, .int (nI (fr + i)))] [] ad F := by
    intro d
    induction d with
    | zero =>
      intro i hd
      have hi : i = L.length := by omega
      subst hi
      refine V_iload C dX7_hasWide_5 rfl ?_
      refine V_iload_n C dX7_hasWide_7 rfl ?_
      refine V_iload_n C dX7_hasWide_8 rfl ?_
      refine V_iadd C dX7_hasWide_9 ?_
      refine V_nm (nI_add _ _) ?_
      refine V_icmpge_t (tgt := 39) C dX7_hasWide_10 (by decide) (Int32.le_refl _) ?_
      refine V_iload_n C dX7_hasWide_39 rfl ?_
      rw [List.take_length]
      exact V_ireturn C Q dX7_hasWide_40 (by unfold b2i; split <;> rfl) (Nat.le_of_ble_eq_true rfl) (Nat.le_of_ble_eq_true rfl) ⟨rfl, rfl, rfl⟩
    | succ d ih =>
      intro i hd
      have hx : L.getD i 0 < 1000 := getD_lt hL i
      have nx : ∀ b : Int32, b2i (wideL (L.take (i + 1))) = b → V X 0 0 33 [(0, .ref (ad c)), (1, .int (nI fr)), (2, .int (nI L.length)), (3, .int b), (4, .int (nI (fr + i)))] [] ad F := by
        intro b hb
        refine V_iinc C dX7_hasWide_33 rfl (nI_inc _) (by decide) ?_
        refine V_goto (tgt := 5) C dX7_hasWide_36 (by decide) ?_
        exact V_sb (ih (i + 1) (by omega)) ⟨rfl, rfl, rfl, by rw [hb]; rfl, rfl, trivial⟩
      refine V_iload C dX7_hasWide_5 rfl ?_
      refine V_iload_n C dX7_hasWide_7 rfl ?_
      refine V_iload_n C dX7_hasWide_8 rfl ?_
      refine V_iadd C dX7_hasWide_9 ?_
      refine V_nm (nI_add _ _) ?_
      refine V_icmpge_f (tgt := 39) C dX7_hasWide_10 (by decide) (nI_ge (a := fr + i) (b := fr + L.length) (by omega) (by omega)) ?_
      refine V_iload_n C dX7_hasWide_13 rfl ?_
      refine V_ifne (tgt := 27) C dX7_hasWide_14 (by decide) (fun h1 => ?_) (fun h1 => ?_)
      · refine V_iconst (v := 1) C dX7_hasWide_27 rfl ?_
        refine V_goto (tgt := 32) C dX7_hasWide_28 (by decide) ?_
        refine V_istore_n C dX7_hasWide_32 (by decide) ?_
        refine V_sb (nx 1 (by rw [wide_suc (by omega)]; cases hw : wideL (L.take i) with | true => rfl | false => exact absurd (show b2i (wideL (L.take i)) = 0 by rw [hw]; rfl) h1)) ⟨rfl, rfl, rfl, rfl, rfl, trivial⟩
      · have hw : wideL (L.take i) = false := by
          cases hw : wideL (L.take i) with
          | false => rfl
          | true => rw [hw] at h1; exact absurd h1 (by decide)
        refine V_aload_n C dX7_hasWide_17 rfl ?_
        refine V_iload C dX7_hasWide_18 rfl ?_
        refine V_iald C dX7_hasWide_20 hr rfl (show fr + i < N by omega) (by omega) ?_
        refine V_nm (hf i (by omega)) ?_
        refine V_sipush (v := 159) C dX7_hasWide_21 (by decide) ?_
        refine V_icmple (tgt := 31) C dX7_hasWide_24 (by decide) (fun h2 => ?_) (fun h2 => ?_)
        · refine V_iconst (v := 0) C dX7_hasWide_31 rfl ?_
          refine V_istore_n C dX7_hasWide_32 (by decide) ?_
          refine V_sb (nx 0 (by rw [wide_suc (by omega), hw, Bool.false_or, decide_eq_false (fun h => absurd h2 (Int32.not_le.mpr (nI_lt (a := 159) (b := L.getD i 0) (by omega) (by omega))))]; rfl)) ⟨rfl, rfl, rfl, rfl, rfl, trivial⟩
        · refine V_iconst (v := 1) C dX7_hasWide_27 rfl ?_
          refine V_goto (tgt := 32) C dX7_hasWide_28 (by decide) ?_
          refine V_istore_n C dX7_hasWide_32 (by decide) ?_
          refine V_sb (nx 1 (by rw [wide_suc (by omega), hw, Bool.false_or, decide_eq_true (show 160 ≤ L.getD i 0 from Nat.lt_of_not_le (fun h => h2 (Int32.not_lt.mp (nI_nlt (a := 159) (b := L.getD i 0) h (by omega)))))]; rfl)) ⟨rfl, rfl, rfl, rfl, rfl, trivial⟩
  refine V_sb (loop L.length 0 (Nat.zero_add _)) ⟨rfl, rfl, rfl, rfl, rfl, trivial⟩
