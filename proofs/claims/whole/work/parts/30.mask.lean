/-! ===== the model's messages and links, asked ===== -/
theorem mObj.kept {ad : Nat → Nat} {F G : Fn} {a b c d : Nat} {th : Int32} (h : mObj ad F a b c d th) (e : G 300 = F 300) : mObj ad G a b c d th := e.trans h
theorem isB_ix {a : Int32} {n : Nat} (hn : n < 2 ^ 30) : isB a 0 (nI n - 1) = if a < 0 ∨ nI n ≤ a then 0 else 1 := by
  have e : (nI n - 1).toInt = (n : Int) - 1 := pk_sub_toInt (b := 1) hn (by decide)
  have e2 : (nI n).toInt = n := nI_toInt (by omega)
  unfold isB
  by_cases h : a < 0 ∨ nI n ≤ a
  · rw [if_pos h, if_neg]
    rintro ⟨h1, h2⟩
    rcases h with h | h
    · exact absurd h (Int32.not_lt.mpr h1)
    · rw [Int32.le_iff_toInt_le] at h h2
      omega
  · rw [if_neg h, if_pos]
    refine ⟨Int32.not_lt.mp (fun g => h (Or.inl g)), ?_⟩
    have h3 : ¬ nI n ≤ a := fun g => h (Or.inr g)
    rw [Int32.le_iff_toInt_le] at h3 ⊢
    omega
theorem isB_n {a : Int32} (n : Nat) {b : Int32} (hb : nI n - 1 = b) (hn : n < 2 ^ 30) : isB a 0 b = if a < 0 ∨ nI n ≤ a then 0 else 1 := by
  rw [← hb]
  exact isB_ix hn
theorem ite01 {c : Prop} {_ : Decidable c} (h : (if c then (0 : Int32) else 1) = 0) : c := by
  by_cases hc : c
  · exact hc
  · rw [if_neg hc] at h; exact absurd h (by decide)
theorem ite01n {c : Prop} {_ : Decidable c} (h : ¬ (if c then (0 : Int32) else 1) = 0) : ¬ c := fun hc => h (if_pos hc)
theorem upd_va {f : Nat → Int32} {g : Nat → Nat} {n j y : Nat} (h : ∀ l, l < n → f l = nI (g l)) : ∀ l, l < n → upd f j (nI y) l = nI (va_up g j y l) := fun l hl => by
  by_cases e : l = j
  · subst e; rw [pk_us, up_s]
  · rw [pk_un e, up_n e]; exact h l hl
theorem ms_len {u : St} (hI : Inv u) {m : Nat} (hm : m < zMc u) : (zMs u m).length ≤ 400 := (hI.2.2.2.2.2.1 m hm).2.1
set_option maxHeartbeats 400000 in
set_option maxRecDepth 100000 in
/-- isMessage -/
theorem m_isMessage {l : Launch} {D : Dx} {b0 : Nat} {ad : Nat → Nat} {F : Fn} (u : St) (th : Int32) (a : Int32) (hM0 : MRep D ad F u th) (hI : Inv u) : Ct l D b0 yX7_isMessage (wsA yX7_isMessage cX7_isMessage 2 (some .boolean)) (rK 1) [.ref (ad 300), .int a] ad F (pRd (some (.int (if a < 0 ∨ nI (zMc u) ≤ a then 0 else 1))) ad F) noX := by
  refine Ct.of (by decide +kernel) (by simp [Value.category]) (Nat.le_of_ble_eq_true rfl) (fun X eD eb el C Q => ?_)
  subst eD; subst eb; subst el
  have hO := hM0.1
  have hM := hO
  unfold mObj at hM
  have hmc := hI.2.1
  have hmsg := hI.2.2.2.2.2.1
  refine V_iload_n C dX7_isMessage_0 rfl ?_
  refine V_iconst (v := 0) C dX7_isMessage_1 rfl ?_
  refine V_aload_n C dX7_isMessage_2 rfl ?_
  refine V_get C dX7_isMessage_3 fr_7_124 hM rfl ?_
  refine V_iconst (v := 1) C dX7_isMessage_6 rfl ?_
  refine V_isub C dX7_isMessage_7 ?_
  refine V_invS C dX7_isMessage_8 (m_isIn a 0 _) ms_7_94 rfl (Nat.le_of_ble_eq_true rfl) ⟨Nat.le_of_ble_eq_true rfl, Nat.le_of_ble_eq_true rfl⟩ ⟨Nat.le_of_ble_eq_true rfl, Nat.le_of_ble_eq_true rfl⟩ (fun _ _ _ h => VT_no h) (fun v ad1 F1 hp => ?_)
  obtain ⟨rfl, rfl, rfl⟩ := hp
  rw [isB_ix (show zMc u < 2 ^ 30 by omega)]
  exact V_ireturn C Q dX7_isMessage_11 (by split <;> rfl) (Nat.le_of_ble_eq_true rfl) (Nat.le_of_ble_eq_true rfl) ⟨rfl, rfl, rfl⟩
set_option maxHeartbeats 400000 in
set_option maxRecDepth 100000 in
/-- state -/
theorem m_state {l : Launch} {D : Dx} {b0 : Nat} {ad : Nat → Nat} {F : Fn} (u : St) (th : Int32) (a : Int32) (hM0 : MRep D ad F u th) (hI : Inv u) : Ct l D b0 yX7_state (wsA yX7_state cX7_state 2 (some .int)) (rK 2) [.ref (ad 300), .int a] ad F (PoM D ad F (spState u a)) noX := by
  refine Ct.of (by decide +kernel) (by simp [Value.category]) (Nat.le_of_ble_eq_true rfl) (fun X eD eb el C Q => ?_)
  subst eD; subst eb; subst el
  have hO := hM0.1
  have hM := hO
  unfold mObj at hM
  have hmc := hI.2.1
  have hmsg := hI.2.2.2.2.2.1
  refine V_aload_n C dX7_state_0 rfl ?_
  refine V_aload_n C dX7_state_1 rfl ?_
  refine V_iload_n C dX7_state_2 rfl ?_
  refine V_invV C dX7_state_3 hM rfl (m_isMessage u th a hM0 hI) mv_7_137 rfl (Nat.le_of_ble_eq_true rfl) ⟨Nat.le_of_ble_eq_true rfl, Nat.le_of_ble_eq_true rfl⟩ ⟨Nat.le_of_ble_eq_true rfl, Nat.le_of_ble_eq_true rfl⟩ (fun _ _ _ h => VT_no h) (fun v ad1 F1 hp => ?_)
  obtain ⟨rfl, rfl, rfl⟩ := hp
  refine V_ifeq (tgt := 13) C dX7_state_6 (by decide) (fun h1 => ?_) (fun h1 => ?_)
  · have hb := ite01 h1
    rw [show spState u a = (1, 0, u) from if_pos hb] at Q
    refine V_iconst (v := 1) C dX7_state_13 rfl ?_
    refine V_invV C dX7_state_14 hM rfl (m_fails _ _ _ _ _ _ hO) mv_7_101 rfl (Nat.le_of_ble_eq_true rfl) ⟨Nat.le_of_ble_eq_true rfl, Nat.le_of_ble_eq_true rfl⟩ ⟨Nat.le_of_ble_eq_true rfl, Nat.le_of_ble_eq_true rfl⟩ (fun _ _ _ h => VT_no h) (fun v ad1 F1 hp => ?_)
    obtain ⟨rfl, rfl, hO1, hfr⟩ := hp
    refine V_ifeq_f (tgt := 24) C dX7_state_17 (by decide) (by decide) ?_
    refine V_iconst (v := 0) C dX7_state_20 rfl ?_
    refine V_goto (tgt := 30) C dX7_state_21 (by decide) ?_
    exact V_ireturn C Q dX7_state_30 rfl (Nat.le_of_ble_eq_true rfl) (Nat.le_of_ble_eq_true rfl) ⟨rfl, rfl, hM0.th hO1 hfr, fun c hc => ⟨rfl, hfr c (by omega)⟩⟩
  · have hb := ite01n h1
    obtain ⟨m, hm, rfl⟩ := badI_not (a := a) (n := zMc u) (by omega) hb
    have em : (nI m).toNatClampNeg = m := nI_clamp (by omega)
    have hl4 := ms_len hI hm
    rw [show spState u (nI m) = (0, nI (zSt u m), u) by unfold spState; rw [if_neg hb, em]] at Q
    refine V_iconst (v := 0) C dX7_state_9 rfl ?_
    refine V_goto (tgt := 14) C dX7_state_10 (by decide) ?_
    refine V_invV C dX7_state_14 hM rfl (m_fails _ _ _ _ _ _ hO) mv_7_101 rfl (Nat.le_of_ble_eq_true rfl) ⟨Nat.le_of_ble_eq_true rfl, Nat.le_of_ble_eq_true rfl⟩ ⟨Nat.le_of_ble_eq_true rfl, Nat.le_of_ble_eq_true rfl⟩ (fun _ _ _ h => VT_no h) (fun v ad1 F1 hp => ?_)
    obtain ⟨rfl, rfl, hO1, hfr⟩ := hp
    have hA : MRep (xD X) ad F1 u 0 := hM0.th hO1 hfr
    have hfrA := hfr
    have hM := hO1
    unfold mObj at hM
    refine V_ifeq_t (tgt := 24) C dX7_state_17 (by decide) (by decide) ?_
    obtain ⟨f308, h308, g308⟩ := hA.2.2.2.2.2.2.2.1
    refine V_aload_n C dX7_state_24 rfl ?_
    refine V_get C dX7_state_25 fr_7_25 hM rfl ?_
    refine V_iload_n C dX7_state_28 rfl ?_
    refine V_iald C dX7_state_29 h308 rfl (show m < 20 by omega) (by decide) ?_
    refine V_nm ((g308 m (by omega)).trans (if_pos hm)) ?_
    exact V_ireturn C Q dX7_state_30 rfl (Nat.le_of_ble_eq_true rfl) (Nat.le_of_ble_eq_true rfl) ⟨rfl, rfl, hA, fun c hc => ⟨rfl, hfrA c (by omega)⟩⟩
set_option maxHeartbeats 400000 in
set_option maxRecDepth 100000 in
/-- partsIn -/
theorem m_partsIn {l : Launch} {D : Dx} {b0 : Nat} {ad : Nat → Nat} {F : Fn} (u : St) (th : Int32) (m : Nat) (hM0 : MRep D ad F u th) (hI : Inv u) (hm : m < zMc u) : Ct l D b0 yX7_partsIn (wsA yX7_partsIn cX7_partsIn 2 (some .int)) (rK 4) [.ref (ad 300), .int (nI m)] ad F (pRd (some (.int (nI (npL (zMs u m))))) ad F) noX := by
  refine Ct.of (by decide +kernel) (by simp [Value.category]) (Nat.le_of_ble_eq_true rfl) (fun X eD eb el C Q => ?_)
  subst eD; subst eb; subst el
  have hO := hM0.1
  have hM := hO
  unfold mObj at hM
  have hmc := hI.2.1
  have hmsg := hI.2.2.2.2.2.1
  obtain ⟨f305, h305, g305⟩ := hM0.2.2.2.2.1
  refine V_aload_n C dX7_partsIn_0 rfl ?_
  refine V_get C dX7_partsIn_1 fr_7_13 hM rfl ?_
  refine V_sipush (v := 400) C dX7_partsIn_4 (by decide) ?_
  refine V_iload_n C dX7_partsIn_7 rfl ?_
  refine V_imul C dX7_partsIn_8 ?_
  refine V_nm (pk_mul 400 m) ?_
  refine V_aload_n C dX7_partsIn_9 rfl ?_
  refine V_get C dX7_partsIn_10 fr_7_16 hM rfl ?_
  refine V_iload_n C dX7_partsIn_13 rfl ?_
  refine V_iald C dX7_partsIn_14 h305 rfl (show m < 20 by omega) (by decide) ?_
  refine V_nm (g305 m hm) ?_
  refine V_invS C dX7_partsIn_15 (m_partsOf 304 8000 (400 * m) (zMs u m) (hM0.2.2.1 m hm) (ms_len hI hm)) ms_7_105 rfl (Nat.le_of_ble_eq_true rfl) ⟨Nat.le_of_ble_eq_true rfl, Nat.le_of_ble_eq_true rfl⟩ ⟨Nat.le_of_ble_eq_true rfl, Nat.le_of_ble_eq_true rfl⟩ (fun _ _ _ h => VT_no h) (fun v ad1 F1 hp => ?_)
  obtain ⟨rfl, rfl, rfl⟩ := hp
  exact V_ireturn C Q dX7_partsIn_18 rfl (Nat.le_of_ble_eq_true rfl) (Nat.le_of_ble_eq_true rfl) ⟨rfl, rfl, rfl⟩
theorem lk_step : ∀ w, w < 64 → ∀ k, k < 6 → (w.testBit k = true → nI (w % 2 ^ k) ||| ((1 : Int32) <<< (nI k &&& 31)) = nI (w % 2 ^ (k + 1))) ∧ (w.testBit k = false → nI (w % 2 ^ k) ||| 0 = nI (w % 2 ^ (k + 1))) := by decide +kernel
theorem lk_64 {u : St} (hI : Inv u) {m : Nat} (hm : m < zMc u) : zLk u m < 64 ∧ npL (zMs u m) ≤ 6 := by
  have h6 := (npL_spec (ms_len hI hm)).1
  exact ⟨Nat.lt_of_lt_of_le (hI.2.2.2.2.2.1 m hm).2.2.2.2.2.2.1 (Nat.pow_le_pow_right (by decide) h6), h6⟩
theorem dl_at {u : St} {m p : Nat} (hm : m < zMc u) (hp : p < npL (zMs u m)) (h6 : npL (zMs u m) ≤ 6) : dlF u (10 * m + p) = if (zLk u m).testBit p = true then 0 else 1 := by
  have e1 : (10 * m + p) / 10 = m := by omega
  have e2 : (10 * m + p) % 10 = p := by omega
  unfold dlF
  rw [e1, e2]
  cases h : (zLk u m).testBit p with
  | true => rw [if_pos rfl, if_neg (fun g => absurd g.2.2 (by decide))]
  | false => exact (if_pos ⟨hm, hp, rfl⟩).trans rfl
set_option maxHeartbeats 400000 in
set_option maxRecDepth 100000 in
/-- lacks -/
theorem m_lacks {l : Launch} {D : Dx} {b0 : Nat} {ad : Nat → Nat} {F : Fn} (u : St) (th : Int32) (m : Nat) (hM0 : MRep D ad F u th) (hI : Inv u) (hm : m < zMc u) : Ct l D b0 yX7_lacks (wsA yX7_lacks cX7_lacks 4 (some .int)) (rK 5) [.ref (ad 300), .int (nI m)] ad F (pRd (some (.int (nI (zLk u m)))) ad F) noX := by
  refine Ct.of (by decide +kernel) (by simp [Value.category]) (Nat.le_of_ble_eq_true rfl) (fun X eD eb el C Q => ?_)
  subst eD; subst eb; subst el
  have hO := hM0.1
  have hM := hO
  unfold mObj at hM
  have hmc := hI.2.1
  have hmsg := hI.2.2.2.2.2.1
  obtain ⟨h64, h6⟩ := lk_64 hI hm
  obtain ⟨f314, h314, g314⟩ := hM0.2.2.2.2.2.2.2.2.2.2.2.2.1
  refine V_iconst (v := 0) C dX7_lacks_0 rfl ?_
  refine V_istore_n C dX7_lacks_1 (by decide) ?_
  refine V_iconst (v := 0) C dX7_lacks_2 rfl ?_
  refine V_istore_n C dX7_lacks_3 (by decide) ?_
  have loop : ∀ (d k : Nat), k + d = npL (zMs u m) → V X 0 0 4 [(0, .ref (ad 300)), (1, .int (nI m)), (2, .int (nI (zLk u m % 2 ^ k))), (3, .int (nI k))] [] ad F := by
    intro d
    induction d with
    | zero =>
      intro k hd
      have hk : k = npL (zMs u m) := by omega
      subst hk
      rw [Nat.mod_eq_of_lt (hmsg m hm).2.2.2.2.2.2.1]
      refine V_iload_n C dX7_lacks_4 rfl ?_
      refine V_aload_n C dX7_lacks_5 rfl ?_
      refine V_iload_n C dX7_lacks_6 rfl ?_
      refine V_invV C dX7_lacks_7 hM rfl (m_partsIn u th m hM0 hI hm) mv_7_130 rfl (Nat.le_of_ble_eq_true rfl) ⟨Nat.le_of_ble_eq_true rfl, Nat.le_of_ble_eq_true rfl⟩ ⟨Nat.le_of_ble_eq_true rfl, Nat.le_of_ble_eq_true rfl⟩ (fun _ _ _ h => VT_no h) (fun v ad1 F1 hp => ?_)
      obtain ⟨rfl, rfl, rfl⟩ := hp
      refine V_icmpge_t (tgt := 43) C dX7_lacks_10 (by decide) (Int32.le_refl _) ?_
      refine V_iload_n C dX7_lacks_43 rfl ?_
      exact V_ireturn C Q dX7_lacks_44 rfl (Nat.le_of_ble_eq_true rfl) (Nat.le_of_ble_eq_true rfl) ⟨rfl, rfl, rfl⟩
    | succ d ih =>
      intro k hd
      have hd9 := dl_at hm (show k < npL (zMs u m) by omega) h6
      have hs := lk_step _ h64 k (by omega)
      have nx : ∀ b : Int32, b = nI (zLk u m % 2 ^ (k + 1)) → V X 0 0 36 [(0, .ref (ad 300)), (1, .int (nI m)), (2, .int (nI (zLk u m % 2 ^ k))), (3, .int (nI k))] [.int b] ad F := by
        intro b hb
        subst hb
        refine V_istore_n C dX7_lacks_36 (by decide) ?_
        refine V_iinc C dX7_lacks_37 rfl (nI_inc _) (by decide) ?_
        refine V_goto (tgt := 4) C dX7_lacks_40 (by decide) ?_
        exact V_sb (ih (k + 1) (by omega)) ⟨rfl, rfl, rfl, rfl, trivial⟩
      refine V_iload_n C dX7_lacks_4 rfl ?_
      refine V_aload_n C dX7_lacks_5 rfl ?_
      refine V_iload_n C dX7_lacks_6 rfl ?_
      refine V_invV C dX7_lacks_7 hM rfl (m_partsIn u th m hM0 hI hm) mv_7_130 rfl (Nat.le_of_ble_eq_true rfl) ⟨Nat.le_of_ble_eq_true rfl, Nat.le_of_ble_eq_true rfl⟩ ⟨Nat.le_of_ble_eq_true rfl, Nat.le_of_ble_eq_true rfl⟩ (fun _ _ _ h => VT_no h) (fun v ad1 F1 hp => ?_)
      obtain ⟨rfl, rfl, rfl⟩ := hp
      refine V_icmpge_f (tgt := 43) C dX7_lacks_10 (by decide) (nI_ge (by omega) (by omega)) ?_
      refine V_iload_n C dX7_lacks_13 rfl ?_
      refine V_aload_n C dX7_lacks_14 rfl ?_
      refine V_get C dX7_lacks_15 fr_7_41 hM rfl ?_
      refine V_bipush (v := 10) C dX7_lacks_18 (by decide) ?_
      refine V_iload_n C dX7_lacks_20 rfl ?_
      refine V_imul C dX7_lacks_21 ?_
      refine V_nm (pk_mul 10 m) ?_
      refine V_iload_n C dX7_lacks_22 rfl ?_
      refine V_iadd C dX7_lacks_23 ?_
      refine V_nm (nI_add _ k) ?_
      refine V_zald C dX7_lacks_24 h314 rfl (show 10 * m + k < 200 by omega) (by decide) ?_
      refine V_nm ((g314 (10 * m + k) (by omega)).trans hd9) ?_
      refine V_ifeq (tgt := 32) C dX7_lacks_25 (by decide) (fun h2 => ?_) (fun h2 => ?_)
      · refine V_iconst (v := 1) C dX7_lacks_32 rfl ?_
        refine V_iload_n C dX7_lacks_33 rfl ?_
        refine V_ishl C dX7_lacks_34 ?_
        refine V_ior C dX7_lacks_35 ?_
        have hb : (zLk u m).testBit k = true := by
          cases h : (zLk u m).testBit k with
          | true => rfl
          | false => rw [h] at h2; exact absurd h2 (by decide)
        exact nx _ (hs.1 hb)
      · refine V_iconst (v := 0) C dX7_lacks_28 rfl ?_
        refine V_goto (tgt := 35) C dX7_lacks_29 (by decide) ?_
        refine V_ior C dX7_lacks_35 ?_
        have hb : (zLk u m).testBit k = false := by
          cases h : (zLk u m).testBit k with
          | false => rfl
          | true => rw [h] at h2; exact absurd rfl h2
        exact nx _ (hs.2 hb)
  exact V_sb (loop (npL (zMs u m)) 0 (Nat.zero_add _)) ⟨rfl, rfl, by rw [Nat.pow_zero, Nat.mod_one]; rfl, rfl, trivial⟩
set_option maxHeartbeats 400000 in
set_option maxRecDepth 100000 in
/-- missing -/
theorem m_missing {l : Launch} {D : Dx} {b0 : Nat} {ad : Nat → Nat} {F : Fn} (u : St) (th : Int32) (a : Int32) (hM0 : MRep D ad F u th) (hI : Inv u) : Ct l D b0 yX7_missing (wsA yX7_missing cX7_missing 2 (some .int)) (rK 6) [.ref (ad 300), .int a] ad F (PoM D ad F (spMiss u a)) noX := by
  refine Ct.of (by decide +kernel) (by simp [Value.category]) (Nat.le_of_ble_eq_true rfl) (fun X eD eb el C Q => ?_)
  subst eD; subst eb; subst el
  have hO := hM0.1
  have hM := hO
  unfold mObj at hM
  have hmc := hI.2.1
  have hmsg := hI.2.2.2.2.2.1
  refine V_aload_n C dX7_missing_0 rfl ?_
  refine V_aload_n C dX7_missing_1 rfl ?_
  refine V_iload_n C dX7_missing_2 rfl ?_
  refine V_invV C dX7_missing_3 hM rfl (m_isMessage u th a hM0 hI) mv_7_137 rfl (Nat.le_of_ble_eq_true rfl) ⟨Nat.le_of_ble_eq_true rfl, Nat.le_of_ble_eq_true rfl⟩ ⟨Nat.le_of_ble_eq_true rfl, Nat.le_of_ble_eq_true rfl⟩ (fun _ _ _ h => VT_no h) (fun v ad1 F1 hp => ?_)
  obtain ⟨rfl, rfl, rfl⟩ := hp
  refine V_ifeq (tgt := 13) C dX7_missing_6 (by decide) (fun h1 => ?_) (fun h1 => ?_)
  · have hb := ite01 h1
    rw [show spMiss u a = (1, 0, u) from if_pos hb] at Q
    refine V_iconst (v := 1) C dX7_missing_13 rfl ?_
    refine V_invV C dX7_missing_14 hM rfl (m_fails _ _ _ _ _ _ hO) mv_7_101 rfl (Nat.le_of_ble_eq_true rfl) ⟨Nat.le_of_ble_eq_true rfl, Nat.le_of_ble_eq_true rfl⟩ ⟨Nat.le_of_ble_eq_true rfl, Nat.le_of_ble_eq_true rfl⟩ (fun _ _ _ h => VT_no h) (fun v ad1 F1 hp => ?_)
    obtain ⟨rfl, rfl, hO1, hfr⟩ := hp
    refine V_ifeq_f (tgt := 24) C dX7_missing_17 (by decide) (by decide) ?_
    refine V_iconst (v := 0) C dX7_missing_20 rfl ?_
    refine V_goto (tgt := 29) C dX7_missing_21 (by decide) ?_
    exact V_ireturn C Q dX7_missing_29 rfl (Nat.le_of_ble_eq_true rfl) (Nat.le_of_ble_eq_true rfl) ⟨rfl, rfl, hM0.th hO1 hfr, fun c hc => ⟨rfl, hfr c (by omega)⟩⟩
  · have hb := ite01n h1
    obtain ⟨m, hm, rfl⟩ := badI_not (a := a) (n := zMc u) (by omega) hb
    have em : (nI m).toNatClampNeg = m := nI_clamp (by omega)
    have hl4 := ms_len hI hm
    rw [show spMiss u (nI m) = (0, nI (zLk u m), u) by unfold spMiss; rw [if_neg hb, em]] at Q
    refine V_iconst (v := 0) C dX7_missing_9 rfl ?_
    refine V_goto (tgt := 14) C dX7_missing_10 (by decide) ?_
    refine V_invV C dX7_missing_14 hM rfl (m_fails _ _ _ _ _ _ hO) mv_7_101 rfl (Nat.le_of_ble_eq_true rfl) ⟨Nat.le_of_ble_eq_true rfl, Nat.le_of_ble_eq_true rfl⟩ ⟨Nat.le_of_ble_eq_true rfl, Nat.le_of_ble_eq_true rfl⟩ (fun _ _ _ h => VT_no h) (fun v ad1 F1 hp => ?_)
    obtain ⟨rfl, rfl, hO1, hfr⟩ := hp
    have hA : MRep (xD X) ad F1 u 0 := hM0.th hO1 hfr
    have hfrA := hfr
    have hM := hO1
    unfold mObj at hM
    refine V_ifeq_t (tgt := 24) C dX7_missing_17 (by decide) (by decide) ?_
    refine V_aload_n C dX7_missing_24 rfl ?_
    refine V_iload_n C dX7_missing_25 rfl ?_
    refine V_invV C dX7_missing_26 hM rfl (m_lacks u 0 m hA hI hm) mv_7_140 rfl (Nat.le_of_ble_eq_true rfl) ⟨Nat.le_of_ble_eq_true rfl, Nat.le_of_ble_eq_true rfl⟩ ⟨Nat.le_of_ble_eq_true rfl, Nat.le_of_ble_eq_true rfl⟩ (fun _ _ _ h => VT_no h) (fun v ad1 F1 hp => ?_)
    obtain ⟨rfl, rfl, rfl⟩ := hp
    exact V_ireturn C Q dX7_missing_29 rfl (Nat.le_of_ble_eq_true rfl) (Nat.le_of_ble_eq_true rfl) ⟨rfl, rfl, hA, fun c hc => ⟨rfl, hfrA c (by omega)⟩⟩
theorem pw_eq {ps : Nat → Nat} {x p : Nat} (hm : ∀ i j, i ≤ j → ps i ≤ ps j) (h1 : ps p ≤ x) (h2 : x < ps (p + 1)) : ∀ n, p ≤ n → pwF ps x n = p
  | 0, h => (Nat.le_zero.mp h).symm
  | n + 1, h => by
    unfold pwF
    rcases Nat.lt_or_ge p (n + 1) with h3 | h3
    · have h4 := hm (p + 1) (n + 1) h3
      rw [if_neg (by omega)]
      exact pw_eq hm h1 h2 n (by omega)
    · have h5 : p = n + 1 := by omega
      subst h5
      rw [if_pos h1]
set_option maxHeartbeats 400000 in
set_option maxRecDepth 100000 in
/-- joined -/
theorem m_joined {l : Launch} {D : Dx} {b0 : Nat} {ad : Nat → Nat} {F : Fn} (u : St) (th : Int32) (a b : Int32) (hM0 : MRep D ad F u th) (hI : Inv u) : Ct l D b0 yX7_joined (wsA yX7_joined cX7_joined 6 (some .int)) (rK 3) [.ref (ad 300), .int a, .int b] ad F (PoM D ad F (spJoin u a b)) noX := by
  refine Ct.of (by decide +kernel) (by simp [Value.category]) (Nat.le_of_ble_eq_true rfl) (fun X eD eb el C Q => ?_)
  subst eD; subst eb; subst el
  have hO := hM0.1
  have hM := hO
  unfold mObj at hM
  have hmc := hI.2.1
  have hmsg := hI.2.2.2.2.2.1
  refine V_aload_n C dX7_joined_0 rfl ?_
  refine V_iload_n C dX7_joined_1 rfl ?_
  refine V_invV C dX7_joined_2 hM rfl (m_isMessage u th a hM0 hI) mv_7_137 rfl (Nat.le_of_ble_eq_true rfl) ⟨Nat.le_of_ble_eq_true rfl, Nat.le_of_ble_eq_true rfl⟩ ⟨Nat.le_of_ble_eq_true rfl, Nat.le_of_ble_eq_true rfl⟩ (fun _ _ _ h => VT_no h) (fun v ad1 F1 hp => ?_)
  obtain ⟨rfl, rfl, rfl⟩ := hp
  refine V_ifeq (tgt := 26) C dX7_joined_5 (by decide) (fun h1 => ?_) (fun h1 => ?_)
  · have hb := ite01 h1
    refine V_iconst (v := 0) C dX7_joined_26 rfl ?_
    refine V_istore_n C dX7_joined_27 (by decide) ?_
    refine V_aload_n C dX7_joined_28 rfl ?_
    refine V_iload_n C dX7_joined_29 rfl ?_
    refine V_ifeq_t (tgt := 37) C dX7_joined_30 (by decide) rfl ?_
    rw [show spJoin u a b = (1, 0, u) from if_pos hb] at Q
    refine V_iconst (v := 1) C dX7_joined_37 rfl ?_
    refine V_invV C dX7_joined_38 hM rfl (m_fails _ _ _ _ _ _ hO) mv_7_101 rfl (Nat.le_of_ble_eq_true rfl) ⟨Nat.le_of_ble_eq_true rfl, Nat.le_of_ble_eq_true rfl⟩ ⟨Nat.le_of_ble_eq_true rfl, Nat.le_of_ble_eq_true rfl⟩ (fun _ _ _ h => VT_no h) (fun v ad1 F1 hp => ?_)
    obtain ⟨rfl, rfl, hO1, hfr⟩ := hp
    refine V_ifeq_f (tgt := 46) C dX7_joined_41 (by decide) (by decide) ?_
    refine V_iconst (v := 0) C dX7_joined_44 rfl ?_
    exact V_ireturn C Q dX7_joined_45 rfl (Nat.le_of_ble_eq_true rfl) (Nat.le_of_ble_eq_true rfl) ⟨rfl, rfl, hM0.th hO1 hfr, fun c hc => ⟨rfl, hfr c (by omega)⟩⟩
  · have hb := ite01n h1
    obtain ⟨m, hm, rfl⟩ := badI_not (a := a) (n := zMc u) (by omega) hb
    have em : (nI m).toNatClampNeg = m := nI_clamp (by omega)
    have hl4 := ms_len hI hm
    have hpos := (hmsg m hm).1
    have eo : spJoin u (nI m) b = if b < 0 ∨ nI (zMs u m).length ≤ b then (1, 0, u) else (0, joinI (zMs u m) (zLk u m) b.toNatClampNeg, u) := by unfold spJoin; rw [if_neg hb, em]
    rw [eo] at Q
    refine V_iload_n C dX7_joined_8 rfl ?_
    refine V_iflt (tgt := 26) C dX7_joined_9 (by decide) (fun h2 => ?_) (fun h2 => ?_)
    · refine V_iconst (v := 0) C dX7_joined_26 rfl ?_
      refine V_istore_n C dX7_joined_27 (by decide) ?_
      refine V_aload_n C dX7_joined_28 rfl ?_
      refine V_iload_n C dX7_joined_29 rfl ?_
      refine V_ifeq_t (tgt := 37) C dX7_joined_30 (by decide) rfl ?_
      rw [if_pos (Or.inl h2)] at Q
      refine V_iconst (v := 1) C dX7_joined_37 rfl ?_
      refine V_invV C dX7_joined_38 hM rfl (m_fails _ _ _ _ _ _ hO) mv_7_101 rfl (Nat.le_of_ble_eq_true rfl) ⟨Nat.le_of_ble_eq_true rfl, Nat.le_of_ble_eq_true rfl⟩ ⟨Nat.le_of_ble_eq_true rfl, Nat.le_of_ble_eq_true rfl⟩ (fun _ _ _ h => VT_no h) (fun v ad1 F1 hp => ?_)
      obtain ⟨rfl, rfl, hO1, hfr⟩ := hp
      refine V_ifeq_f (tgt := 46) C dX7_joined_41 (by decide) (by decide) ?_
      refine V_iconst (v := 0) C dX7_joined_44 rfl ?_
      exact V_ireturn C Q dX7_joined_45 rfl (Nat.le_of_ble_eq_true rfl) (Nat.le_of_ble_eq_true rfl) ⟨rfl, rfl, hM0.th hO1 hfr, fun c hc => ⟨rfl, hfr c (by omega)⟩⟩
    · obtain ⟨f305, h305, g305⟩ := hM0.2.2.2.2.1
      refine V_iload_n C dX7_joined_12 rfl ?_
      refine V_aload_n C dX7_joined_13 rfl ?_
      refine V_get C dX7_joined_14 fr_7_16 hM rfl ?_
      refine V_iload_n C dX7_joined_17 rfl ?_
      refine V_iald C dX7_joined_18 h305 rfl (show m < 20 by omega) (by decide) ?_
      refine V_nm (g305 m hm) ?_
      refine V_icmpge (tgt := 26) C dX7_joined_19 (by decide) (fun h3 => ?_) (fun h3 => ?_)
      · refine V_iconst (v := 0) C dX7_joined_26 rfl ?_
        refine V_istore_n C dX7_joined_27 (by decide) ?_
        refine V_aload_n C dX7_joined_28 rfl ?_
        refine V_iload_n C dX7_joined_29 rfl ?_
        refine V_ifeq_t (tgt := 37) C dX7_joined_30 (by decide) rfl ?_
        rw [if_pos (Or.inr h3)] at Q
        refine V_iconst (v := 1) C dX7_joined_37 rfl ?_
        refine V_invV C dX7_joined_38 hM rfl (m_fails _ _ _ _ _ _ hO) mv_7_101 rfl (Nat.le_of_ble_eq_true rfl) ⟨Nat.le_of_ble_eq_true rfl, Nat.le_of_ble_eq_true rfl⟩ ⟨Nat.le_of_ble_eq_true rfl, Nat.le_of_ble_eq_true rfl⟩ (fun _ _ _ h => VT_no h) (fun v ad1 F1 hp => ?_)
        obtain ⟨rfl, rfl, hO1, hfr⟩ := hp
        refine V_ifeq_f (tgt := 46) C dX7_joined_41 (by decide) (by decide) ?_
        refine V_iconst (v := 0) C dX7_joined_44 rfl ?_
        exact V_ireturn C Q dX7_joined_45 rfl (Nat.le_of_ble_eq_true rfl) (Nat.le_of_ble_eq_true rfl) ⟨rfl, rfl, hM0.th hO1 hfr, fun c hc => ⟨rfl, hfr c (by omega)⟩⟩
      · have hb2 : ¬ (b < 0 ∨ nI (zMs u m).length ≤ b) := fun h => h.elim h2 h3
        rw [if_neg hb2] at Q
        obtain ⟨x, hx, rfl⟩ := badI_not (a := b) (n := (zMs u m).length) (by omega) hb2
        rw [show (nI x).toNatClampNeg = x from nI_clamp (by omega)] at Q
        obtain ⟨h64, h6⟩ := lk_64 hI hm
        obtain ⟨hn6, hn1, hn2⟩ := npL_spec hl4
        refine V_iconst (v := 1) C dX7_joined_22 rfl ?_
        refine V_goto (tgt := 27) C dX7_joined_23 (by decide) ?_
        refine V_istore_n C dX7_joined_27 (by decide) ?_
        refine V_aload_n C dX7_joined_28 rfl ?_
        refine V_iload_n C dX7_joined_29 rfl ?_
        refine V_ifeq_f (tgt := 37) C dX7_joined_30 (by decide) (by decide) ?_
        refine V_iconst (v := 0) C dX7_joined_33 rfl ?_
        refine V_goto (tgt := 38) C dX7_joined_34 (by decide) ?_
        refine V_invV C dX7_joined_38 hM rfl (m_fails _ _ _ _ _ _ hO) mv_7_101 rfl (Nat.le_of_ble_eq_true rfl) ⟨Nat.le_of_ble_eq_true rfl, Nat.le_of_ble_eq_true rfl⟩ ⟨Nat.le_of_ble_eq_true rfl, Nat.le_of_ble_eq_true rfl⟩ (fun _ _ _ h => VT_no h) (fun v ad1 F1 hp => ?_)
        obtain ⟨rfl, rfl, hO1, hfr⟩ := hp
        have hA : MRep (xD X) ad F1 u 0 := hM0.th hO1 hfr
        have hfrA := hfr
        have hM := hO1
        unfold mObj at hM
        refine V_ifeq_t (tgt := 46) C dX7_joined_41 (by decide) (by decide) ?_
        obtain ⟨f305a, h305, g305a⟩ := hA.2.2.2.2.1
        obtain ⟨f314a, h314, g314a⟩ := hA.2.2.2.2.2.2.2.2.2.2.2.2.1
        have hw := hA.2.2.1 m hm
        obtain ⟨f304, h304, g304⟩ := hw.2.2.2
        have hmono : ∀ i j, i ≤ j → posL (zMs u m) i ≤ posL (zMs u m) j := fun i j h => posL_mono _ h
        refine V_iconst (v := 0) C dX7_joined_46 rfl ?_
        refine V_istore C dX7_joined_47 (by decide) ?_
        refine V_iload_n C dX7_joined_49 rfl ?_
        refine V_istore C dX7_joined_50 (by decide) ?_
        have loop : ∀ (d p : Nat), p + d = npL (zMs u m) → posL (zMs u m) p ≤ x → V X 0 0 52 [(0, .ref (ad 300)), (1, .int (nI m)), (2, .int (nI x)), (4, .int (nI p)), (5, .int (nI (x - posL (zMs u m) p)))] [] ad F1 := by
          intro d
          induction d with
          | zero =>
            intro p hd hp
            have hp : p = npL (zMs u m) := by omega
            subst hp
            omega
          | succ d ih =>
            intro p hd hp
            have hpe := posL_le (zMs u m) (p + 1)
            have hpm := hmono p (p + 1) (by omega)
            refine V_iload C dX7_joined_52 rfl ?_
            refine V_aload_n C dX7_joined_54 rfl ?_
            refine V_get C dX7_joined_55 fr_7_13 hM rfl ?_
            refine V_sipush (v := 400) C dX7_joined_58 (by decide) ?_
            refine V_iload_n C dX7_joined_61 rfl ?_
            refine V_imul C dX7_joined_62 ?_
            refine V_nm (pk_mul 400 m) ?_
            refine V_aload_n C dX7_joined_63 rfl ?_
            refine V_get C dX7_joined_64 fr_7_16 hM rfl ?_
            refine V_iload_n C dX7_joined_67 rfl ?_
            refine V_iald C dX7_joined_68 h305 rfl (show m < 20 by omega) (by decide) ?_
            refine V_nm (g305a m hm) ?_
            refine V_iload C dX7_joined_69 rfl ?_
            refine V_invS C dX7_joined_71 (m_signsOf 304 8000 (400 * m) p (zMs u m) hw hl4 (by omega)) ms_7_90 rfl (Nat.le_of_ble_eq_true rfl) ⟨Nat.le_of_ble_eq_true rfl, Nat.le_of_ble_eq_true rfl⟩ ⟨Nat.le_of_ble_eq_true rfl, Nat.le_of_ble_eq_true rfl⟩ (fun _ _ _ h => VT_no h) (fun v ad1 F1 hp => ?_)
            obtain ⟨rfl, rfl, rfl⟩ := hp
            refine V_icmplt (tgt := 108) C dX7_joined_74 (by decide) (fun h4 => ?_) (fun h4 => ?_)
            · have hlt : x < posL (zMs u m) (p + 1) := by
                have h5 := (nI_ltI (a := x - posL (zMs u m) p) (b := posL (zMs u m) (p + 1) - posL (zMs u m) p) (by omega) (by omega)).mp h4
                omega
              have hd9 := dl_at hm (show p < npL (zMs u m) by omega) h6
              have ej : joinI (zMs u m) (zLk u m) x = if (zLk u m).testBit p = true then -1 else nI ((zMs u m).getD x 0) := by
                unfold joinI
                rw [pw_eq hmono hp hlt _ (by omega)]
              rw [ej] at Q
              refine V_aload_n C dX7_joined_108 rfl ?_
              refine V_get C dX7_joined_109 fr_7_41 hM rfl ?_
              refine V_bipush (v := 10) C dX7_joined_112 (by decide) ?_
              refine V_iload_n C dX7_joined_114 rfl ?_
              refine V_imul C dX7_joined_115 ?_
              refine V_nm (pk_mul 10 m) ?_
              refine V_iload C dX7_joined_116 rfl ?_
              refine V_iadd C dX7_joined_118 ?_
              refine V_nm (nI_add _ p) ?_
              refine V_zald C dX7_joined_119 h314 rfl (show 10 * m + p < 200 by omega) (by decide) ?_
              refine V_nm ((g314a (10 * m + p) (by omega)).trans hd9) ?_
              refine V_ifeq (tgt := 138) C dX7_joined_120 (by decide) (fun h5 => ?_) (fun h5 => ?_)
              · rw [if_pos (show (zLk u m).testBit p = true by
                  cases h : (zLk u m).testBit p with
                  | true => rfl
                  | false => rw [h] at h5; exact absurd h5 (by decide))] at Q
                refine V_iconst (v := (-1)) C dX7_joined_138 rfl ?_
                exact V_ireturn C Q dX7_joined_139 rfl (Nat.le_of_ble_eq_true rfl) (Nat.le_of_ble_eq_true rfl) ⟨rfl, rfl, hA, fun c hc => ⟨rfl, hfrA c (by omega)⟩⟩
              · rw [if_neg (show ¬ (zLk u m).testBit p = true from fun h => h5 (if_pos h))] at Q
                refine V_aload_n C dX7_joined_123 rfl ?_
                refine V_get C dX7_joined_124 fr_7_13 hM rfl ?_
                refine V_sipush (v := 400) C dX7_joined_127 (by decide) ?_
                refine V_iload_n C dX7_joined_130 rfl ?_
                refine V_imul C dX7_joined_131 ?_
                refine V_nm (pk_mul 400 m) ?_
                refine V_iload_n C dX7_joined_132 rfl ?_
                refine V_iadd C dX7_joined_133 ?_
                refine V_nm (nI_add _ x) ?_
                refine V_iald C dX7_joined_134 h304 rfl (show 400 * m + x < 8000 by omega) (by decide) ?_
                refine V_nm (g304 x hx) ?_
                refine V_goto (tgt := 139) C dX7_joined_135 (by decide) ?_
                exact V_ireturn C Q dX7_joined_139 rfl (Nat.le_of_ble_eq_true rfl) (Nat.le_of_ble_eq_true rfl) ⟨rfl, rfl, hA, fun c hc => ⟨rfl, hfrA c (by omega)⟩⟩
            · have hle : posL (zMs u m) (p + 1) ≤ x := by
                have h5 : ¬ (x - posL (zMs u m) p < posL (zMs u m) (p + 1) - posL (zMs u m) p) := fun h => h4 (nI_lt h (by omega))
                omega
              refine V_iload C dX7_joined_77 rfl ?_
              refine V_aload_n C dX7_joined_79 rfl ?_
              refine V_get C dX7_joined_80 fr_7_13 hM rfl ?_
              refine V_sipush (v := 400) C dX7_joined_83 (by decide) ?_
              refine V_iload_n C dX7_joined_86 rfl ?_
              refine V_imul C dX7_joined_87 ?_
              refine V_nm (pk_mul 400 m) ?_
              refine V_aload_n C dX7_joined_88 rfl ?_
              refine V_get C dX7_joined_89 fr_7_16 hM rfl ?_
              refine V_iload_n C dX7_joined_92 rfl ?_
              refine V_iald C dX7_joined_93 h305 rfl (show m < 20 by omega) (by decide) ?_
              refine V_nm (g305a m hm) ?_
              refine V_iload C dX7_joined_94 rfl ?_
              refine V_invS C dX7_joined_96 (m_signsOf 304 8000 (400 * m) p (zMs u m) hw hl4 (by omega)) ms_7_90 rfl (Nat.le_of_ble_eq_true rfl) ⟨Nat.le_of_ble_eq_true rfl, Nat.le_of_ble_eq_true rfl⟩ ⟨Nat.le_of_ble_eq_true rfl, Nat.le_of_ble_eq_true rfl⟩ (fun _ _ _ h => VT_no h) (fun v ad1 F1 hp => ?_)
              obtain ⟨rfl, rfl, rfl⟩ := hp
              refine V_isub C dX7_joined_99 ?_
              refine V_nm (pk_sub (by omega)) ?_
              refine V_istore C dX7_joined_100 (by decide) ?_
              refine V_iinc C dX7_joined_102 rfl (nI_inc _) (by decide) ?_
              refine V_goto (tgt := 52) C dX7_joined_105 (by decide) ?_
              exact V_sb (ih (p + 1) (by omega) hle) ⟨rfl, rfl, rfl, rfl, by rw [show x - posL (zMs u m) p - (posL (zMs u m) (p + 1) - posL (zMs u m) p) = x - posL (zMs u m) (p + 1) by omega]; rfl, trivial⟩
        exact V_sb (loop (npL (zMs u m)) 0 (Nat.zero_add _) (Nat.zero_le _)) ⟨rfl, rfl, rfl, rfl, rfl, trivial⟩
set_option maxHeartbeats 400000 in
set_option maxRecDepth 100000 in
/-- receipt -/
theorem m_receipt {l : Launch} {D : Dx} {b0 : Nat} {ad : Nat → Nat} {F : Fn} (u : St) (th : Int32) (a : Int32) (hM0 : MRep D ad F u th) (hI : Inv u) : Ct l D b0 yX7_receipt (wsA yX7_receipt cX7_receipt 2 (some .int)) (rK 1) [.ref (ad 300), .int a] ad F (PoM D ad F (spRcp u a)) noX := by
  refine Ct.of (by decide +kernel) (by simp [Value.category]) (Nat.le_of_ble_eq_true rfl) (fun X eD eb el C Q => ?_)
  subst eD; subst eb; subst el
  have hO := hM0.1
  have hM := hO
  unfold mObj at hM
  have hmc := hI.2.1
  have hmsg := hI.2.2.2.2.2.1
  have hr20 : (zRcp u).length ≤ 20 := by
    rw [hI.2.2.2.2.1]
    exact Nat.le_trans (List.length_filter_le _ _) (by rw [List.length_range]; exact hmc)
  refine V_aload_n C dX7_receipt_0 rfl ?_
  refine V_iload_n C dX7_receipt_1 rfl ?_
  refine V_iconst (v := 0) C dX7_receipt_2 rfl ?_
  refine V_aload_n C dX7_receipt_3 rfl ?_
  refine V_get C dX7_receipt_4 fr_7_143 hM rfl ?_
  refine V_iconst (v := 1) C dX7_receipt_7 rfl ?_
  refine V_isub C dX7_receipt_8 ?_
  refine V_invS C dX7_receipt_9 (m_isIn a 0 _) ms_7_94 rfl (Nat.le_of_ble_eq_true rfl) ⟨Nat.le_of_ble_eq_true rfl, Nat.le_of_ble_eq_true rfl⟩ ⟨Nat.le_of_ble_eq_true rfl, Nat.le_of_ble_eq_true rfl⟩ (fun _ _ _ h => VT_no h) (fun v ad1 F1 hp => ?_)
  obtain ⟨rfl, rfl, rfl⟩ := hp
  rw [isB_ix (show (zRcp u).length < 2 ^ 30 by omega)]
  refine V_ifeq (tgt := 19) C dX7_receipt_12 (by decide) (fun h1 => ?_) (fun h1 => ?_)
  · rw [show spRcp u a = (1, 0, u) from if_pos (ite01 h1)] at Q
    refine V_iconst (v := 1) C dX7_receipt_19 rfl ?_
    refine V_invV C dX7_receipt_20 hM rfl (m_fails _ _ _ _ _ _ hO) mv_7_101 rfl (Nat.le_of_ble_eq_true rfl) ⟨Nat.le_of_ble_eq_true rfl, Nat.le_of_ble_eq_true rfl⟩ ⟨Nat.le_of_ble_eq_true rfl, Nat.le_of_ble_eq_true rfl⟩ (fun _ _ _ h => VT_no h) (fun v ad1 F1 hp => ?_)
    obtain ⟨rfl, rfl, hO1, hfr⟩ := hp
    refine V_ifeq_f (tgt := 30) C dX7_receipt_23 (by decide) (by decide) ?_
    refine V_iconst (v := 0) C dX7_receipt_26 rfl ?_
    refine V_goto (tgt := 36) C dX7_receipt_27 (by decide) ?_
    exact V_ireturn C Q dX7_receipt_36 rfl (Nat.le_of_ble_eq_true rfl) (Nat.le_of_ble_eq_true rfl) ⟨rfl, rfl, hM0.th hO1 hfr, fun c hc => ⟨rfl, hfr c (by omega)⟩⟩
  · have hb := ite01n h1
    obtain ⟨j, hj, rfl⟩ := badI_not (a := a) (n := (zRcp u).length) (by omega) hb
    have ej : (nI j).toNatClampNeg = j := nI_clamp (by omega)
    rw [show spRcp u (nI j) = (0, nI ((zRcp u).getD j 0), u) by unfold spRcp; rw [if_neg hb, ej]] at Q
    refine V_iconst (v := 0) C dX7_receipt_15 rfl ?_
    refine V_goto (tgt := 20) C dX7_receipt_16 (by decide) ?_
    refine V_invV C dX7_receipt_20 hM rfl (m_fails _ _ _ _ _ _ hO) mv_7_101 rfl (Nat.le_of_ble_eq_true rfl) ⟨Nat.le_of_ble_eq_true rfl, Nat.le_of_ble_eq_true rfl⟩ ⟨Nat.le_of_ble_eq_true rfl, Nat.le_of_ble_eq_true rfl⟩ (fun _ _ _ h => VT_no h) (fun v ad1 F1 hp => ?_)
    obtain ⟨rfl, rfl, hO1, hfr⟩ := hp
    have hA : MRep (xD X) ad F1 u 0 := hM0.th hO1 hfr
    have hfrA := hfr
    have hM := hO1
    unfold mObj at hM
    refine V_ifeq_t (tgt := 30) C dX7_receipt_23 (by decide) (by decide) ?_
    obtain ⟨f310, h310, g310⟩ := hA.2.2.2.2.2.2.2.2.1
    refine V_aload_n C dX7_receipt_30 rfl ?_
    refine V_get C dX7_receipt_31 fr_7_28 hM rfl ?_
    refine V_iload_n C dX7_receipt_34 rfl ?_
    refine V_iald C dX7_receipt_35 h310 rfl (show j < 20 by omega) (by decide) ?_
    refine V_nm (g310 j hj) ?_
    exact V_ireturn C Q dX7_receipt_36 rfl (Nat.le_of_ble_eq_true rfl) (Nat.le_of_ble_eq_true rfl) ⟨rfl, rfl, hA, fun c hc => ⟨rfl, hfrA c (by omega)⟩⟩
set_option maxHeartbeats 400000 in
set_option maxRecDepth 100000 in
/-- of -/
theorem m_of {l : Launch} {D : Dx} {b0 : Nat} {ad : Nat → Nat} {F : Fn} (u : St) (th : Int32) (c : Nat) (g : Nat → Int32) (a : Int32) (hM0 : MRep D ad F u th) (hc : c ≠ 300) (hg : aN D F c 3 3 g) : Ct l D b0 yX7_of (wsA yX7_of cX7_of 3 (some .int)) (rK 2) [.ref (ad 300), .ref (ad c), .int a] ad F (PoM D ad F (if a < 0 ∨ nI 3 ≤ a then (1, 0, u) else (0, g a.toNatClampNeg, u))) noX := by
  refine Ct.of (by decide +kernel) (by simp [Value.category]) (Nat.le_of_ble_eq_true rfl) (fun X eD eb el C Q => ?_)
  subst eD; subst eb; subst el
  have hO := hM0.1
  have hM := hO
  unfold mObj at hM
  refine V_aload_n C dX7_of_0 rfl ?_
  refine V_iload_n C dX7_of_1 rfl ?_
  refine V_invS C dX7_of_2 (m_isLink a) ms_7_156 rfl (Nat.le_of_ble_eq_true rfl) ⟨Nat.le_of_ble_eq_true rfl, Nat.le_of_ble_eq_true rfl⟩ ⟨Nat.le_of_ble_eq_true rfl, Nat.le_of_ble_eq_true rfl⟩ (fun _ _ _ h => VT_no h) (fun v ad1 F1 hp => ?_)
  obtain ⟨rfl, rfl, rfl⟩ := hp
  rw [isB_n 3 (by decide) (by decide)]
  refine V_ifeq (tgt := 12) C dX7_of_5 (by decide) (fun h1 => ?_) (fun h1 => ?_)
  · rw [if_pos (ite01 h1)] at Q
    refine V_iconst (v := 1) C dX7_of_12 rfl ?_
    refine V_invV C dX7_of_13 hM rfl (m_fails _ _ _ _ _ _ hO) mv_7_101 rfl (Nat.le_of_ble_eq_true rfl) ⟨Nat.le_of_ble_eq_true rfl, Nat.le_of_ble_eq_true rfl⟩ ⟨Nat.le_of_ble_eq_true rfl, Nat.le_of_ble_eq_true rfl⟩ (fun _ _ _ h => VT_no h) (fun v ad1 F1 hp => ?_)
    obtain ⟨rfl, rfl, hO1, hfr⟩ := hp
    refine V_ifeq_f (tgt := 23) C dX7_of_16 (by decide) (by decide) ?_
    refine V_iconst (v := 0) C dX7_of_19 rfl ?_
    refine V_goto (tgt := 26) C dX7_of_20 (by decide) ?_
    exact V_ireturn C Q dX7_of_26 rfl (Nat.le_of_ble_eq_true rfl) (Nat.le_of_ble_eq_true rfl) ⟨rfl, rfl, hM0.th hO1 hfr, fun c hc => ⟨rfl, hfr c (by omega)⟩⟩
  · have hb := ite01n h1
    obtain ⟨j, hj, rfl⟩ := badI_not (a := a) (n := 3) (by omega) hb
    rw [if_neg hb, show (nI j).toNatClampNeg = j from nI_clamp (by omega)] at Q
    obtain ⟨f, hcF, hf⟩ := hg
    refine V_iconst (v := 0) C dX7_of_8 rfl ?_
    refine V_goto (tgt := 13) C dX7_of_9 (by decide) ?_
    refine V_invV C dX7_of_13 hM rfl (m_fails _ _ _ _ _ _ hO) mv_7_101 rfl (Nat.le_of_ble_eq_true rfl) ⟨Nat.le_of_ble_eq_true rfl, Nat.le_of_ble_eq_true rfl⟩ ⟨Nat.le_of_ble_eq_true rfl, Nat.le_of_ble_eq_true rfl⟩ (fun _ _ _ h => VT_no h) (fun v ad1 F1 hp => ?_)
    obtain ⟨rfl, rfl, hO1, hfr⟩ := hp
    have hA : MRep (xD X) ad F1 u 0 := hM0.th hO1 hfr
    have hfrA := hfr
    have hM := hO1
    unfold mObj at hM
    refine V_ifeq_t (tgt := 23) C dX7_of_16 (by decide) (by decide) ?_
    have hc := (hfrA c hc).trans hcF
    refine V_aload_n C dX7_of_23 rfl ?_
    refine V_iload_n C dX7_of_24 rfl ?_
    refine V_iald C dX7_of_25 hc rfl hj (by decide) ?_
    refine V_nm (hf j hj) ?_
    exact V_ireturn C Q dX7_of_26 rfl (Nat.le_of_ble_eq_true rfl) (Nat.le_of_ble_eq_true rfl) ⟨rfl, rfl, hA, fun c hc => ⟨rfl, hfrA c (by omega)⟩⟩
set_option maxHeartbeats 400000 in
set_option maxRecDepth 100000 in
/-- queued -/
theorem m_queued {l : Launch} {D : Dx} {b0 : Nat} {ad : Nat → Nat} {F : Fn} (u : St) (th : Int32) (a : Int32) (hM0 : MRep D ad F u th) : Ct l D b0 yX7_queued (wsA yX7_queued cX7_queued 2 (some .int)) (rK 3) [.ref (ad 300), .int a] ad F (PoM D ad F (spQd u a)) noX := by
  refine Ct.of (by decide +kernel) (by simp [Value.category]) (Nat.le_of_ble_eq_true rfl) (fun X eD eb el C Q => ?_)
  subst eD; subst eb; subst el
  have hO := hM0.1
  have hM := hO
  unfold mObj at hM
  refine V_aload_n C dX7_queued_0 rfl ?_
  refine V_aload_n C dX7_queued_1 rfl ?_
  refine V_get C dX7_queued_2 fr_7_44 hM rfl ?_
  refine V_iload_n C dX7_queued_5 rfl ?_
  refine V_invV C dX7_queued_6 hM rfl (m_of u th 315 (fun l => nI (zRw u (2 * l)).length) a hM0 (by decide) hM0.2.2.2.2.2.2.2.2.2.2.2.2.2.1) mv_7_159 rfl (Nat.le_of_ble_eq_true rfl) ⟨Nat.le_of_ble_eq_true rfl, Nat.le_of_ble_eq_true rfl⟩ ⟨Nat.le_of_ble_eq_true rfl, Nat.le_of_ble_eq_true rfl⟩ (fun _ _ _ h => VT_no h) (fun v ad1 F1 hp => ?_)
  obtain ⟨rfl, rfl, hp1, hp2⟩ := hp
  exact V_ireturn C Q dX7_queued_9 rfl (Nat.le_of_ble_eq_true rfl) (Nat.le_of_ble_eq_true rfl) ⟨rfl, rfl, hp1, hp2⟩
set_option maxHeartbeats 400000 in
set_option maxRecDepth 100000 in
/-- underWay -/
theorem m_underWay {l : Launch} {D : Dx} {b0 : Nat} {ad : Nat → Nat} {F : Fn} (u : St) (th : Int32) (a : Int32) (hM0 : MRep D ad F u th) : Ct l D b0 yX7_underWay (wsA yX7_underWay cX7_underWay 2 (some .int)) (rK 3) [.ref (ad 300), .int a] ad F (PoM D ad F (spUw u a)) noX := by
  refine Ct.of (by decide +kernel) (by simp [Value.category]) (Nat.le_of_ble_eq_true rfl) (fun X eD eb el C Q => ?_)
  subst eD; subst eb; subst el
  have hO := hM0.1
  have hM := hO
  unfold mObj at hM
  refine V_aload_n C dX7_underWay_0 rfl ?_
  refine V_aload_n C dX7_underWay_1 rfl ?_
  refine V_get C dX7_underWay_2 fr_7_50 hM rfl ?_
  refine V_iload_n C dX7_underWay_5 rfl ?_
  refine V_invV C dX7_underWay_6 hM rfl (m_of u th 317 (fun l => nI (zRw u (2 * l + 1)).length) a hM0 (by decide) hM0.2.2.2.2.2.2.2.2.2.2.2.2.2.2.2.1) mv_7_159 rfl (Nat.le_of_ble_eq_true rfl) ⟨Nat.le_of_ble_eq_true rfl, Nat.le_of_ble_eq_true rfl⟩ ⟨Nat.le_of_ble_eq_true rfl, Nat.le_of_ble_eq_true rfl⟩ (fun _ _ _ h => VT_no h) (fun v ad1 F1 hp => ?_)
  obtain ⟨rfl, rfl, hp1, hp2⟩ := hp
  exact V_ireturn C Q dX7_underWay_9 rfl (Nat.le_of_ble_eq_true rfl) (Nat.le_of_ble_eq_true rfl) ⟨rfl, rfl, hp1, hp2⟩
set_option maxHeartbeats 400000 in
set_option maxRecDepth 100000 in
/-- tokens -/
theorem m_tokens {l : Launch} {D : Dx} {b0 : Nat} {ad : Nat → Nat} {F : Fn} (u : St) (th : Int32) (a : Int32) (hM0 : MRep D ad F u th) : Ct l D b0 yX7_tokens (wsA yX7_tokens cX7_tokens 2 (some .int)) (rK 3) [.ref (ad 300), .int a] ad F (PoM D ad F (spTok u a)) noX := by
  refine Ct.of (by decide +kernel) (by simp [Value.category]) (Nat.le_of_ble_eq_true rfl) (fun X eD eb el C Q => ?_)
  subst eD; subst eb; subst el
  have hO := hM0.1
  have hM := hO
  unfold mObj at hM
  refine V_aload_n C dX7_tokens_0 rfl ?_
  refine V_aload_n C dX7_tokens_1 rfl ?_
  refine V_get C dX7_tokens_2 fr_7_59 hM rfl ?_
  refine V_iload_n C dX7_tokens_5 rfl ?_
  refine V_invV C dX7_tokens_6 hM rfl (m_of u th 320 (fun l => nI (zTk u l)) a hM0 (by decide) hM0.2.2.2.2.2.2.2.2.2.2.2.2.2.2.2.2.2.2.1) mv_7_159 rfl (Nat.le_of_ble_eq_true rfl) ⟨Nat.le_of_ble_eq_true rfl, Nat.le_of_ble_eq_true rfl⟩ ⟨Nat.le_of_ble_eq_true rfl, Nat.le_of_ble_eq_true rfl⟩ (fun _ _ _ h => VT_no h) (fun v ad1 F1 hp => ?_)
  obtain ⟨rfl, rfl, hp1, hp2⟩ := hp
  exact V_ireturn C Q dX7_tokens_9 rfl (Nat.le_of_ble_eq_true rfl) (Nat.le_of_ble_eq_true rfl) ⟨rfl, rfl, hp1, hp2⟩
set_option maxHeartbeats 400000 in
set_option maxRecDepth 100000 in
/-- setWindow -/
theorem m_setWindow {l : Launch} {D : Dx} {b0 : Nat} {ad : Nat → Nat} {F : Fn} (u : St) (th : Int32) (a b : Int32) (hM0 : MRep D ad F u th) (hI : Inv u) : Ct l D b0 yX7_setWindow (wsA yX7_setWindow cX7_setWindow 4 (some .int)) (rK 2) [.ref (ad 300), .int a, .int b] ad F (PoM D ad F (spSetW u a b)) noX := by
  refine Ct.of (by decide +kernel) (by simp [Value.category]) (Nat.le_of_ble_eq_true rfl) (fun X eD eb el C Q => ?_)
  subst eD; subst eb; subst el
  have hO := hM0.1
  have hM := hO
  unfold mObj at hM
  refine V_aload_n C dX7_setWindow_0 rfl ?_
  refine V_iload_n C dX7_setWindow_1 rfl ?_
  refine V_invS C dX7_setWindow_2 (m_isLink a) ms_7_156 rfl (Nat.le_of_ble_eq_true rfl) ⟨Nat.le_of_ble_eq_true rfl, Nat.le_of_ble_eq_true rfl⟩ ⟨Nat.le_of_ble_eq_true rfl, Nat.le_of_ble_eq_true rfl⟩ (fun _ _ _ h => VT_no h) (fun v ad1 F1 hp => ?_)
  obtain ⟨rfl, rfl, rfl⟩ := hp
  rw [isB_n 3 (by decide) (by decide)]
  refine V_ifne (tgt := 12) C dX7_setWindow_5 (by decide) (fun h1 => ?_) (fun h1 => ?_)
  · have hb := ite01n h1
    obtain ⟨j, hj, rfl⟩ := badI_not (a := a) (n := 3) (by omega) hb
    have ej : (nI j).toNatClampNeg = j := nI_clamp (by omega)
    refine V_iload_n C dX7_setWindow_12 rfl ?_
    refine V_iconst (v := 1) C dX7_setWindow_13 rfl ?_
    refine V_bipush (v := 10) C dX7_setWindow_14 (by decide) ?_
    refine V_invS C dX7_setWindow_16 (m_isIn b 1 10) ms_7_94 rfl (Nat.le_of_ble_eq_true rfl) ⟨Nat.le_of_ble_eq_true rfl, Nat.le_of_ble_eq_true rfl⟩ ⟨Nat.le_of_ble_eq_true rfl, Nat.le_of_ble_eq_true rfl⟩ (fun _ _ _ h => VT_no h) (fun v ad1 F1 hp => ?_)
    obtain ⟨rfl, rfl, rfl⟩ := hp
    refine V_ifeq (tgt := 26) C dX7_setWindow_19 (by decide) (fun h2 => ?_) (fun h2 => ?_)
    · rw [show spSetW u (nI j) b = (2, 0, u) by unfold spSetW; rw [if_neg hb, if_pos (isB_0 h2)]] at Q
      refine V_iconst (v := 2) C dX7_setWindow_26 rfl ?_
      refine V_invV C dX7_setWindow_27 hM rfl (m_fails _ _ _ _ _ _ hO) mv_7_101 rfl (Nat.le_of_ble_eq_true rfl) ⟨Nat.le_of_ble_eq_true rfl, Nat.le_of_ble_eq_true rfl⟩ ⟨Nat.le_of_ble_eq_true rfl, Nat.le_of_ble_eq_true rfl⟩ (fun _ _ _ h => VT_no h) (fun v ad1 F1 hp => ?_)
      obtain ⟨rfl, rfl, hO1, hfr⟩ := hp
      refine V_ifeq_f (tgt := 35) C dX7_setWindow_30 (by decide) (by decide) ?_
      refine V_iconst (v := 0) C dX7_setWindow_33 rfl ?_
      exact V_ireturn C Q dX7_setWindow_34 rfl (Nat.le_of_ble_eq_true rfl) (Nat.le_of_ble_eq_true rfl) ⟨rfl, rfl, hM0.th hO1 hfr, fun c hc => ⟨rfl, hfr c (by omega)⟩⟩
    · have h3 := isB_1 h2
      obtain ⟨k, hk9, rfl⟩ := nI_of2 (n := 10) (M := 10) rfl (fun h => h3.1 (Int32.lt_trans h (by decide))) (Int32.not_lt.mp h3.2)
      have ek : (nI k).toNatClampNeg = k := nI_clamp (by omega)
      rw [show spSetW u (nI j) (nI k) = (0, nI (zWn u j), sWn u (va_up (zWn u) j k)) by unfold spSetW; rw [if_neg hb, if_neg (fun h => h.elim h3.1 h3.2), ej, ek]] at Q
      refine V_iconst (v := 0) C dX7_setWindow_22 rfl ?_
      refine V_goto (tgt := 27) C dX7_setWindow_23 (by decide) ?_
      refine V_invV C dX7_setWindow_27 hM rfl (m_fails _ _ _ _ _ _ hO) mv_7_101 rfl (Nat.le_of_ble_eq_true rfl) ⟨Nat.le_of_ble_eq_true rfl, Nat.le_of_ble_eq_true rfl⟩ ⟨Nat.le_of_ble_eq_true rfl, Nat.le_of_ble_eq_true rfl⟩ (fun _ _ _ h => VT_no h) (fun v ad1 F1 hp => ?_)
      obtain ⟨rfl, rfl, hO1, hfr⟩ := hp
      have hA : MRep (xD X) ad F1 u 0 := hM0.th hO1 hfr
      have hfrA := hfr
      have hM := hO1
      unfold mObj at hM
      refine V_ifeq_t (tgt := 35) C dX7_setWindow_30 (by decide) (by decide) ?_
      obtain ⟨f321, h321, g321⟩ := hA.2.2.2.2.2.2.2.2.2.2.2.2.2.2.2.2.2.2.2.1
      refine V_aload_n C dX7_setWindow_35 rfl ?_
      refine V_get C dX7_setWindow_36 fr_7_62 hM rfl ?_
      refine V_iload_n C dX7_setWindow_39 rfl ?_
      refine V_iald C dX7_setWindow_40 h321 rfl hj (by decide) ?_
      refine V_nm (g321 j hj) ?_
      refine V_istore_n C dX7_setWindow_41 (by decide) ?_
      refine V_aload_n C dX7_setWindow_42 rfl ?_
      refine V_get C dX7_setWindow_43 fr_7_62 hM rfl ?_
      refine V_iload_n C dX7_setWindow_46 rfl ?_
      refine V_iload_n C dX7_setWindow_47 rfl ?_
      refine G_iast C dX7_setWindow_48 h321 rfl hj (by decide) (fun F2 h321 hfr => ?_)
      refine V_iload_n C dX7_setWindow_49 rfl ?_
      obtain ⟨k0, k1, k2, k3, k4, k5, k6, k7, k8, k9, k10, k11, k12, k13, k14, k15, k16, k17, k18, k19, k20, k21, k22⟩ := hA
      exact V_ireturn C Q dX7_setWindow_50 rfl (Nat.le_of_ble_eq_true rfl) (Nat.le_of_ble_eq_true rfl) ⟨rfl, rfl, ⟨k0.kept (hfr _ (by decide)), k1.kept (hfr _ (by decide)), fun m hm => (k2 m hm).kept (hfr _ (by decide)), k3.imp fun f hf => (hfr _ (by decide)).trans hf, k4.kept (hfr _ (by decide)), k5.kept (hfr _ (by decide)), k6.kept (hfr _ (by decide)), k7.kept (hfr _ (by decide)), k8.kept (hfr _ (by decide)), k9.kept (hfr _ (by decide)), k10.kept (hfr _ (by decide)), k11.kept (hfr _ (by decide)), k12.kept (hfr _ (by decide)), k13.kept (hfr _ (by decide)), k14.kept (hfr _ (by decide)), k15.kept (hfr _ (by decide)), k16.kept (hfr _ (by decide)), k17.kept (hfr _ (by decide)), k18.kept (hfr _ (by decide)), ⟨_, h321, upd_va g321⟩, k20.kept (hfr _ (by decide)), k21.kept (hfr _ (by decide)), k22.kept (hfr _ (by decide))⟩, fun c hc => ⟨rfl, (hfr c (by omega)).trans (hfrA c (by omega))⟩⟩
  · rw [show spSetW u a b = (1, 0, u) from if_pos (ite01 h1)] at Q
    refine V_iconst (v := 1) C dX7_setWindow_8 rfl ?_
    refine V_goto (tgt := 27) C dX7_setWindow_9 (by decide) ?_
    refine V_invV C dX7_setWindow_27 hM rfl (m_fails _ _ _ _ _ _ hO) mv_7_101 rfl (Nat.le_of_ble_eq_true rfl) ⟨Nat.le_of_ble_eq_true rfl, Nat.le_of_ble_eq_true rfl⟩ ⟨Nat.le_of_ble_eq_true rfl, Nat.le_of_ble_eq_true rfl⟩ (fun _ _ _ h => VT_no h) (fun v ad1 F1 hp => ?_)
    obtain ⟨rfl, rfl, hO1, hfr⟩ := hp
    refine V_ifeq_f (tgt := 35) C dX7_setWindow_30 (by decide) (by decide) ?_
    refine V_iconst (v := 0) C dX7_setWindow_33 rfl ?_
    exact V_ireturn C Q dX7_setWindow_34 rfl (Nat.le_of_ble_eq_true rfl) (Nat.le_of_ble_eq_true rfl) ⟨rfl, rfl, hM0.th hO1 hfr, fun c hc => ⟨rfl, hfr c (by omega)⟩⟩
