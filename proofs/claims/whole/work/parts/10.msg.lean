/-! ===== MESSAGES, RECEPTION ===== -/
def MsgAt (F : Fn) (c : Nat) (num rcv en : Int32) (lk sg sa : Nat) (np stt lw : Int32) : Prop := F c = some (oB 1 [.int num, .int rcv, .int en, .ref lk, .ref sg, .ref sa, .int np, .int stt, .int lw])
/-- a set of parts loses one -/
def clrB (w p : Nat) : Nat := if w.testBit p then w - 2 ^ p else w
theorem clr_ok : ∀ w, w < 64 → ∀ p, p < 6 → nI w &&& (((1 : Int32) <<< (nI p &&& 31)) ^^^ (-1)) = nI (clrB w p) := by decide +kernel
theorem has_ok : ∀ w, w < 64 → ∀ p, p < 6 → ((nI w >>> (nI p &&& 31)) &&& 1 = 1 ↔ w.testBit p = true) := by decide +kernel
theorem clr_lt : ∀ w, w < 64 → ∀ p, p < 6 → clrB w p < 64 := by decide +kernel
theorem all_ok : ∀ n, n < 7 → ((1 : Int32) <<< (nI n &&& 31)) - 1 = nI (2 ^ n - 1) := by decide +kernel
set_option maxHeartbeats 400000 in
set_option maxRecDepth 100000 in
/-- Message.lacks -/
theorem c_lacks {l : Launch} {D : Dx} {b0 : Nat} {ad : Nat → Nat} {F : Fn} (c : Nat) (num rcv en : Int32) (lk sg sa : Nat) (np stt : Int32) (w p : Nat) (hm : MsgAt F c num rcv en lk sg sa np stt (nI w)) (hw : w < 64) (hp9 : p < 6) : Ct l D b0 yX1_lacks (wsA yX1_lacks cX1_lacks 2 (some .boolean)) r0 [.ref (ad c), .int (nI p)] ad F (pRd (some (.int (if w.testBit p then 1 else 0))) ad F) noX := by
  refine Ct.of (by decide +kernel) (by simp [Value.category]) (Nat.le_of_ble_eq_true rfl) (fun X eD eb el C Q => ?_)
  subst eD; subst eb; subst el
  unfold MsgAt at hm
  refine V_aload_n C dX1_lacks_0 rfl ?_
  refine V_get C dX1_lacks_1 fr_1_48 hm rfl ?_
  refine V_iload_n C dX1_lacks_4 rfl ?_
  refine V_ishr C dX1_lacks_5 ?_
  refine V_iconst (v := 1) C dX1_lacks_6 rfl ?_
  refine V_iand C dX1_lacks_7 ?_
  refine V_iconst (v := 1) C dX1_lacks_8 rfl ?_
  refine V_icmpne (tgt := 16) C dX1_lacks_9 (by decide) (fun hc => ?_) (fun hc => ?_)
  · rw [if_neg (fun h => hc ((has_ok w hw p hp9).mpr h))] at Q
    refine V_iconst (v := 0) C dX1_lacks_16 rfl ?_
    exact V_ireturn C Q dX1_lacks_17 rfl (Nat.le_of_ble_eq_true rfl) (Nat.le_of_ble_eq_true rfl) ⟨rfl, rfl, rfl⟩
  · rw [if_pos ((has_ok w hw p hp9).mp hc)] at Q
    refine V_iconst (v := 1) C dX1_lacks_12 rfl ?_
    refine V_goto (tgt := 17) C dX1_lacks_13 (by decide) ?_
    exact V_ireturn C Q dX1_lacks_17 rfl (Nat.le_of_ble_eq_true rfl) (Nat.le_of_ble_eq_true rfl) ⟨rfl, rfl, rfl⟩
set_option maxHeartbeats 400000 in
set_option maxRecDepth 100000 in
/-- Message.receive -/
theorem c_receive {l : Launch} {D : Dx} {b0 : Nat} {ad : Nat → Nat} {F : Fn} (c : Nat) (num rcv en : Int32) (lk sg sa : Nat) (np stt : Int32) (w p : Nat) (hm : MsgAt F c num rcv en lk sg sa np stt (nI w)) (hw : w < 64) (hp9 : p < 6) : Ct l D b0 yX1_receive (wsA yX1_receive cX1_receive 2 none) r0 [.ref (ad c), .int (nI p)] ad F (fun v ad1 F1 => v = none ∧ ad = ad1 ∧ MsgAt F1 c num rcv en lk sg sa np stt (nI (clrB w p)) ∧ ∀ x, x ≠ c → F1 x = F x) noX := by
  refine Ct.of (by decide +kernel) (by simp [Value.category]) (Nat.le_of_ble_eq_true rfl) (fun X eD eb el C Q => ?_)
  subst eD; subst eb; subst el
  unfold MsgAt at hm
  refine V_aload_n C dX1_receive_0 rfl ?_
  refine V_dup C dX1_receive_1 rfl ?_
  refine V_get C dX1_receive_2 fr_1_48 hm rfl ?_
  refine V_iconst (v := 1) C dX1_receive_5 rfl ?_
  refine V_iload_n C dX1_receive_6 rfl ?_
  refine V_ishl C dX1_receive_7 ?_
  refine V_iconst (v := (-1)) C dX1_receive_8 rfl ?_
  refine V_ixor C dX1_receive_9 ?_
  refine V_iand C dX1_receive_10 ?_
  refine V_nm (clr_ok w hw p hp9) ?_
  refine G_put C dX1_receive_11 fp_1_48 hm rfl rfl (Nat.le_of_ble_eq_true rfl) (fun F1 hm hfr => ?_)
  dsimp only [List.set] at hm
  exact V_return C Q dX1_receive_14 (Nat.le_of_ble_eq_true rfl) (Nat.le_of_ble_eq_true rfl) ⟨rfl, rfl, hm, hfr⟩
/-- the part that has a place: the last one that begins there or before -/
def pwF (ps : Nat → Nat) (place : Nat) : Nat → Nat
  | 0 => 0
  | n + 1 => if ps (n + 1) ≤ place then n + 1 else pwF ps place n
set_option maxHeartbeats 400000 in
set_option maxRecDepth 100000 in
/-- Message.partWith -/
theorem c_partWith {l : Launch} {D : Dx} {b0 : Nat} {ad : Nat → Nat} {F : Fn} (c sa N place : Nat) (ps : Nat → Nat) (g : Nat → Int32) (num rcv en : Int32) (lk sg : Nat) (np stt lw : Int32) (hm : MsgAt F c num rcv en lk sg (ad sa) np stt lw) (hs : F sa = some (aI D (N + 1) g)) (hg : ∀ j, j ≤ N → g j = nI (ps j)) (hN : N < 100) (hps : ∀ j, j ≤ N → ps j < 2 ^ 31) (hpl : place < 2 ^ 31) : Ct l D b0 yX1_partWith (wsA yX1_partWith cX1_partWith 4 (some .int)) r0 [.ref (ad c), .int (nI place)] ad F (pRd (some (.int (nI (pwF ps place N)))) ad F) noX := by
  refine Ct.of (by decide +kernel) (by simp [Value.category]) (Nat.le_of_ble_eq_true rfl) (fun X eD eb el C Q => ?_)
  subst eD; subst eb; subst el
  unfold MsgAt at hm
  refine V_iconst (v := 0) C dX1_partWith_0 rfl ?_
  refine V_istore_n C dX1_partWith_1 (by decide) ?_
  refine V_iconst (v := 1) C dX1_partWith_2 rfl ?_
  refine V_istore_n C dX1_partWith_3 (by decide) ?_
  have loop : ∀ (d t : Nat), t + d = N → V X 0 0 4 [(0, .ref (ad c)), (1, .int (nI place)), (2, .int (nI (pwF ps place t))), (3, .int (nI (t + 1)))] [] ad F := by
    intro d
    induction d with
    | zero =>
      intro t hd
      have ht : t = N := by omega
      subst ht
      refine V_iload_n C dX1_partWith_4 rfl ?_
      refine V_aload_n C dX1_partWith_5 rfl ?_
      refine V_get C dX1_partWith_6 fr_1_41 hm rfl ?_
      refine V_alen C dX1_partWith_9 hs rfl ?_
      refine V_icmpge_t (tgt := 31) C dX1_partWith_10 (by decide) (Int32.le_refl _) ?_
      refine V_iload_n C dX1_partWith_31 rfl ?_
      exact V_ireturn C Q dX1_partWith_32 rfl (Nat.le_of_ble_eq_true rfl) (Nat.le_of_ble_eq_true rfl) ⟨rfl, rfl, rfl⟩
    | succ d ih =>
      intro t hd
      have h1 := hps (t + 1) (by omega)
      refine V_iload_n C dX1_partWith_4 rfl ?_
      refine V_aload_n C dX1_partWith_5 rfl ?_
      refine V_get C dX1_partWith_6 fr_1_41 hm rfl ?_
      refine V_alen C dX1_partWith_9 hs rfl ?_
      refine V_icmpge_f (tgt := 31) C dX1_partWith_10 (by decide) (nI_ge (by omega) (by omega)) ?_
      refine V_iload_n C dX1_partWith_13 rfl ?_
      refine V_aload_n C dX1_partWith_14 rfl ?_
      refine V_get C dX1_partWith_15 fr_1_41 hm rfl ?_
      refine V_iload_n C dX1_partWith_18 rfl ?_
      refine V_iald C dX1_partWith_19 hs rfl (by omega) (by omega) ?_
      refine V_nm (hg (t + 1) (by omega)) ?_
      refine V_icmplt (tgt := 25) C dX1_partWith_20 (by decide) (fun hc => ?_) (fun hc => ?_)
      · have e : pwF ps place (t + 1) = pwF ps place t := by rw [pwF, if_neg (fun h => nI_nlt h hpl hc)]
        refine V_iinc C dX1_partWith_25 rfl (nI_inc _) (by decide) ?_
        refine V_goto (tgt := 4) C dX1_partWith_28 (by decide) ?_
        refine V_sb (ih (t + 1) (by omega)) ⟨rfl, rfl, by rw [e]; rfl, rfl, trivial⟩
      · have e : pwF ps place (t + 1) = t + 1 := by rw [pwF, if_pos (Nat.le_of_not_lt fun h => hc (nI_lt h h1))]
        refine V_iload_n C dX1_partWith_23 rfl ?_
        refine V_istore_n C dX1_partWith_24 (by decide) ?_
        refine V_iinc C dX1_partWith_25 rfl (nI_inc _) (by decide) ?_
        refine V_goto (tgt := 4) C dX1_partWith_28 (by decide) ?_
        refine V_sb (ih (t + 1) (by omega)) ⟨rfl, rfl, by rw [e]; rfl, rfl, trivial⟩
  refine V_sb (loop N 0 (by omega)) ⟨rfl, rfl, rfl, rfl, trivial⟩
set_option maxHeartbeats 400000 in
set_option maxRecDepth 100000 in
/-- Arrays.fill -/
theorem c_fill {l : Launch} {D : Dx} {b0 : Nat} {ad : Nat → Nat} {F : Fn} (a N : Nat) (f : Nat → Int32) (x : Int32) (ha : F a = some (aI D N f)) (hN : N < 2 ^ 31) : Ct l D b0 yJ7_fill_53178 (wsA yJ7_fill_53178 cJ7_fill_53178 4 none) r0 [.ref (ad a), .int x] ad F (fun v ad1 F1 => v = none ∧ ad = ad1 ∧ (∃ g, F1 a = some (aI D N g) ∧ ∀ j, j < N → g j = x) ∧ ∀ z, z ≠ a → F1 z = F z) noX := by
  refine Ct.of (by decide +kernel) (by simp [Value.category]) (Nat.le_of_ble_eq_true rfl) (fun X eD eb el C Q => ?_)
  subst eD; subst eb; subst el
  refine V_iconst (v := 0) C dJ7_fill_53178_0 rfl ?_
  refine V_istore_n C dJ7_fill_53178_1 (by decide) ?_
  refine V_aload_n C dJ7_fill_53178_2 rfl ?_
  refine V_alen C dJ7_fill_53178_3 ha rfl ?_
  refine V_istore_n C dJ7_fill_53178_4 (by decide) ?_
  have loop : ∀ (d t : Nat) (G : Fn) (g : Nat → Int32), t + d = N → G a = some (aI (xD X) N g) → (∀ j, j < t → g j = x) → (∀ z, z ≠ a → G z = F z) → V X 0 0 5 [(0, .ref (ad a)), (1, .int x), (2, .int (nI t)), (3, .int (nI N))] [] ad G := by
    intro d
    induction d with
    | zero =>
      intro t G g hd ha hg hK
      have ht : t = N := by omega
      subst ht
      refine V_iload_n C dJ7_fill_53178_5 rfl ?_
      refine V_iload_n C dJ7_fill_53178_6 rfl ?_
      refine V_icmpge_t (tgt := 20) C dJ7_fill_53178_7 (by decide) (Int32.le_refl _) ?_
      exact V_return C Q dJ7_fill_53178_20 (Nat.le_of_ble_eq_true rfl) (Nat.le_of_ble_eq_true rfl) ⟨rfl, rfl, ⟨g, ha, hg⟩, hK⟩
    | succ d ih =>
      intro t G g hd ha hg hK
      refine V_iload_n C dJ7_fill_53178_5 rfl ?_
      refine V_iload_n C dJ7_fill_53178_6 rfl ?_
      refine V_icmpge_f (tgt := 20) C dJ7_fill_53178_7 (by decide) (nI_ge (by omega) hN) ?_
      refine V_aload_n C dJ7_fill_53178_10 rfl ?_
      refine V_iload_n C dJ7_fill_53178_11 rfl ?_
      refine V_iload_n C dJ7_fill_53178_12 rfl ?_
      refine G_iast C dJ7_fill_53178_13 ha rfl (by omega) hN (fun G1 ha hfr => ?_)
      refine V_iinc C dJ7_fill_53178_14 rfl (nI_inc _) (by decide) ?_
      refine V_goto (tgt := 5) C dJ7_fill_53178_17 (by decide) ?_
      refine V_sb (ih (t + 1) G1 _ (by omega) ha (fun j hj => ?_) (fun z hz => (hfr z hz).trans (hK z hz))) ⟨rfl, rfl, rfl, rfl, trivial⟩
      by_cases e : j = t
      · subst e; simp [upd]
      · simp [upd, e]; exact hg j (by omega)
  refine V_sb (loop N 0 F f (by omega) ha (fun j hj => absurd hj (Nat.not_lt_zero j)) (fun _ _ => rfl)) ⟨rfl, rfl, rfl, rfl, trivial⟩
def RcpAt (ad : Nat → Nat) (F : Fn) (c k s la : Nat) : Prop := F c = some (oB 3 [.ref (ad k), .ref (ad s), .ref (ad la)])
def svW (kw : Nat → Int32) (x : Int32) : Nat := if kw 1 = x then 1 else if kw 2 = x then 2 else if kw 3 = x then 3 else if kw 4 = x then 4 else 0
set_option maxHeartbeats 400000 in
set_option maxRecDepth 100000 in
/-- Reception.serviceWith -/
theorem c_serviceWith {l : Launch} {D : Dx} {b0 : Nat} {ad : Nat → Nat} {F : Fn} (c k s la : Nat) (kw : Nat → Int32) (x : Int32) (hr : RcpAt ad F c k s la) (hk : F k = some (aI D 5 kw)) : Ct l D b0 yX3_serviceWith (wsA yX3_serviceWith cX3_serviceWith 3 (some .int)) r0 [.ref (ad c), .int x] ad F (pRd (some (.int (nI (svW kw x)))) ad F) noX := by
  refine Ct.of (by decide +kernel) (by simp [Value.category]) (Nat.le_of_ble_eq_true rfl) (fun X eD eb el C Q => ?_)
  subst eD; subst eb; subst el
  unfold RcpAt at hr
  refine V_iconst (v := 1) C dX3_serviceWith_0 rfl ?_
  refine V_istore_n C dX3_serviceWith_1 (by decide) ?_
  refine V_iload_n C dX3_serviceWith_2 rfl ?_
  refine V_aload_n C dX3_serviceWith_3 rfl ?_
  refine V_get C dX3_serviceWith_4 fr_3_9 hr rfl ?_
  refine V_alen C dX3_serviceWith_7 hk rfl ?_
  refine V_icmpge_f (tgt := 29) C dX3_serviceWith_8 (by decide) (by decide) ?_
  refine V_aload_n C dX3_serviceWith_11 rfl ?_
  refine V_get C dX3_serviceWith_12 fr_3_9 hr rfl ?_
  refine V_iload_n C dX3_serviceWith_15 rfl ?_
  refine V_iald C dX3_serviceWith_16 hk (show _ = nI 1 from rfl) (by decide) (by decide) ?_
  refine V_iload_n C dX3_serviceWith_17 rfl ?_
  refine V_icmpne (tgt := 23) C dX3_serviceWith_18 (by decide) (fun h1 => ?_) (fun h1 => ?_)
  · refine V_iinc C dX3_serviceWith_23 rfl rfl (by decide) ?_
    refine V_goto (tgt := 2) C dX3_serviceWith_26 (by decide) ?_
    refine V_iload_n C dX3_serviceWith_2 rfl ?_
    refine V_aload_n C dX3_serviceWith_3 rfl ?_
    refine V_get C dX3_serviceWith_4 fr_3_9 hr rfl ?_
    refine V_alen C dX3_serviceWith_7 hk rfl ?_
    refine V_icmpge_f (tgt := 29) C dX3_serviceWith_8 (by decide) (by decide) ?_
    refine V_aload_n C dX3_serviceWith_11 rfl ?_
    refine V_get C dX3_serviceWith_12 fr_3_9 hr rfl ?_
    refine V_iload_n C dX3_serviceWith_15 rfl ?_
    refine V_iald C dX3_serviceWith_16 hk (show _ = nI 2 from rfl) (by decide) (by decide) ?_
    refine V_iload_n C dX3_serviceWith_17 rfl ?_
    refine V_icmpne (tgt := 23) C dX3_serviceWith_18 (by decide) (fun h2 => ?_) (fun h2 => ?_)
    · refine V_iinc C dX3_serviceWith_23 rfl rfl (by decide) ?_
      refine V_goto (tgt := 2) C dX3_serviceWith_26 (by decide) ?_
      refine V_iload_n C dX3_serviceWith_2 rfl ?_
      refine V_aload_n C dX3_serviceWith_3 rfl ?_
      refine V_get C dX3_serviceWith_4 fr_3_9 hr rfl ?_
      refine V_alen C dX3_serviceWith_7 hk rfl ?_
      refine V_icmpge_f (tgt := 29) C dX3_serviceWith_8 (by decide) (by decide) ?_
      refine V_aload_n C dX3_serviceWith_11 rfl ?_
      refine V_get C dX3_serviceWith_12 fr_3_9 hr rfl ?_
      refine V_iload_n C dX3_serviceWith_15 rfl ?_
      refine V_iald C dX3_serviceWith_16 hk (show _ = nI 3 from rfl) (by decide) (by decide) ?_
      refine V_iload_n C dX3_serviceWith_17 rfl ?_
      refine V_icmpne (tgt := 23) C dX3_serviceWith_18 (by decide) (fun h3 => ?_) (fun h3 => ?_)
      · refine V_iinc C dX3_serviceWith_23 rfl rfl (by decide) ?_
        refine V_goto (tgt := 2) C dX3_serviceWith_26 (by decide) ?_
        refine V_iload_n C dX3_serviceWith_2 rfl ?_
        refine V_aload_n C dX3_serviceWith_3 rfl ?_
        refine V_get C dX3_serviceWith_4 fr_3_9 hr rfl ?_
        refine V_alen C dX3_serviceWith_7 hk rfl ?_
        refine V_icmpge_f (tgt := 29) C dX3_serviceWith_8 (by decide) (by decide) ?_
        refine V_aload_n C dX3_serviceWith_11 rfl ?_
        refine V_get C dX3_serviceWith_12 fr_3_9 hr rfl ?_
        refine V_iload_n C dX3_serviceWith_15 rfl ?_
        refine V_iald C dX3_serviceWith_16 hk (show _ = nI 4 from rfl) (by decide) (by decide) ?_
        refine V_iload_n C dX3_serviceWith_17 rfl ?_
        refine V_icmpne (tgt := 23) C dX3_serviceWith_18 (by decide) (fun h4 => ?_) (fun h4 => ?_)
        · refine V_iinc C dX3_serviceWith_23 rfl rfl (by decide) ?_
          refine V_goto (tgt := 2) C dX3_serviceWith_26 (by decide) ?_
          refine V_iload_n C dX3_serviceWith_2 rfl ?_
          refine V_aload_n C dX3_serviceWith_3 rfl ?_
          refine V_get C dX3_serviceWith_4 fr_3_9 hr rfl ?_
          refine V_alen C dX3_serviceWith_7 hk rfl ?_
          refine V_icmpge_t (tgt := 29) C dX3_serviceWith_8 (by decide) (by decide) ?_
          refine V_iconst (v := 0) C dX3_serviceWith_29 rfl ?_
          exact V_ireturn C Q dX3_serviceWith_30 rfl (Nat.le_of_ble_eq_true rfl) (Nat.le_of_ble_eq_true rfl) ⟨by simp only [svW]; rw [if_neg h1, if_neg h2, if_neg h3, if_neg h4]; rfl, rfl, rfl⟩
        · refine V_iload_n C dX3_serviceWith_21 rfl ?_
          exact V_ireturn C Q dX3_serviceWith_22 rfl (Nat.le_of_ble_eq_true rfl) (Nat.le_of_ble_eq_true rfl) ⟨by simp only [svW]; rw [if_neg h1, if_neg h2, if_neg h3, if_pos h4]; rfl, rfl, rfl⟩
      · refine V_iload_n C dX3_serviceWith_21 rfl ?_
        exact V_ireturn C Q dX3_serviceWith_22 rfl (Nat.le_of_ble_eq_true rfl) (Nat.le_of_ble_eq_true rfl) ⟨by simp only [svW]; rw [if_neg h1, if_neg h2, if_pos h3]; rfl, rfl, rfl⟩
    · refine V_iload_n C dX3_serviceWith_21 rfl ?_
      exact V_ireturn C Q dX3_serviceWith_22 rfl (Nat.le_of_ble_eq_true rfl) (Nat.le_of_ble_eq_true rfl) ⟨by simp only [svW]; rw [if_neg h1, if_pos h2]; rfl, rfl, rfl⟩
  · refine V_iload_n C dX3_serviceWith_21 rfl ?_
    exact V_ireturn C Q dX3_serviceWith_22 rfl (Nat.le_of_ble_eq_true rfl) (Nat.le_of_ble_eq_true rfl) ⟨by simp only [svW]; rw [if_pos h1]; rfl, rfl, rfl⟩
